def F_J0_coder_7d493_ad25  : Int32 := 0
set_option maxHeartbeats 4000000 in
set_option maxRecDepth 100000 in
theorem c_J0_coder_7d493_ad25 (l : Launch) (hl0 : l.stackTraces = false) (D : va_G) (ad : Nat → Nat) (sz : Nat)  : Met l yJ0_coder_7d493 wsJ0_coder_7d493 ({ frames := 0, cells := 0, slots := 0, locals := 0 }) (PR_ D ad [] [] sz [.ref (ad 25)]) (QR_ (.int (F_J0_coder_7d493_ad25)) (va_A [] sz)) 0 0 (va_A [] sz) := by
  refine Met.ofW (cc := cJ0_coder_7d493) (maxL := 1) (ret := (some .byte)) (by decide) rfl ?_
  intro p e s m args below meth c s₁ B hml hv
  obtain ⟨rfl, hsz, hP, hK, hF⟩ := hv
  have hx := B.exec
  have hb := B.bytes
  have hr := B.returns
  have hts := atoms_spec (ws := wsJ0_coder_7d493) B.pre
  have hown : s.vm.findClass RJ0 = some m.cls := findClass_of_methodNamed B.named
  have hlocks := B.notSynchronized
  subst hsz
  generalize hAe : va_A [] s.heap.size = A at hF ⊢
  have hA : ∀ q : Nat, s.heap.size ≤ q → A q := fun q h => by rw [← hAe]; exact Or.inr h
  obtain ⟨H, hHe⟩ : ∃ H : Heap, H = s.heap := ⟨_, rfl⟩
  have hS : va_S A s.heap H [] := by rw [hHe]; exact va_S.rf
  have hP : va_P D vwCl [] H := by rw [hHe]; exact hP
  rw [← hHe]
  have hl := lv_entry [.ref (ad 25)] (n := 1) (Nat.le_of_ble_eq_true rfl)
  rw [lg_entry_eq]
  generalize (lg_sl [.ref (ad 25)] ++ List.replicate (1 - (lg_sl [.ref (ad 25)]).length) Slot.unset).toArray = ls at hl ⊢
  have hl : lv_has ls 1 [(0, .ref (ad 25))] := hl
  have hM : F_J0_coder_7d493_ad25 = 0 := rfl
  refine va_gets (C := "java/lang/String") (n := "COMPACT_STRINGS") (d := "Z") (own := RJ0) (ref := "java/lang/String") (v := .int 1) hx hb hF.2.2.2.1 hS hown (hts (.fieldLink RJ0 38 "java/lang/String" "COMPACT_STRINGS" "Z") (List.mem_of_getElem? (i := 1) (by decide +kernel))) (fun _ h9 => h9) dJ0_coder_7d493_0 ?_
  refine lv_if_eq (tgt := 13) hx hb dJ0_coder_7d493_3 (by decide) (fun c9 => absurd c9 (by decide +kernel)) (fun _ => ?_)
  refine lv_aload_n hx hb dJ0_coder_7d493_6 rfl (lv_at hl 0 rfl) ?_
  refine vk_getf (o := "java/lang/String") (n := "coder") (d := "B") (q := ad 25) (v := .int 0) hx hb ((fxst_ hF).1 5 (by decide)).2.1 hS hown (hts (.fieldLink RJ0 15 "java/lang/String" "coder" "B") (List.mem_of_getElem? (i := 2) (by decide +kernel))) (fun _ h9 => h9) dJ0_coder_7d493_7 ?_
  refine lv_goto (tgt := 14) hx hb dJ0_coder_7d493_10 (by decide) ?_
  refine W.widen (k := 0) (n := 0) (Nat.le_of_ble_eq_true rfl) (Nat.le_of_ble_eq_true rfl) ?_
  exact W.zret (v := 0) hx hb hr rfl (QR_.mk hS (by rw [hM])) hS.2.2 dJ0_coder_7d493_14
def F_J0_length_8abf5_ad25  : Int32 := 1
set_option maxHeartbeats 4000000 in
set_option maxRecDepth 100000 in
theorem c_J0_length_8abf5_ad25 (l : Launch) (hl0 : l.stackTraces = false) (D : va_G) (ad : Nat → Nat) (sz : Nat)  : Met l yJ0_length_8abf5 wsJ0_length_8abf5 ({ frames := 1, cells := 0, slots := 0, locals := 22 }) (PR_ D ad [] [] sz [.ref (ad 25)]) (QR_ (.int (F_J0_length_8abf5_ad25)) (va_A [] sz)) 0 0 (va_A [] sz) := by
  refine Met.ofW (cc := cJ0_length_8abf5) (maxL := 1) (ret := (some .int)) (by decide) rfl ?_
  intro p e s m args below meth c s₁ B hml hv
  obtain ⟨rfl, hsz, hP, hK, hF⟩ := hv
  have hx := B.exec
  have hb := B.bytes
  have hr := B.returns
  have hts := atoms_spec (ws := wsJ0_length_8abf5) B.pre
  have hown : s.vm.findClass RJ0 = some m.cls := findClass_of_methodNamed B.named
  have hlocks := B.notSynchronized
  subst hsz
  generalize hAe : va_A [] s.heap.size = A at hF ⊢
  have hA : ∀ q : Nat, s.heap.size ≤ q → A q := fun q h => by rw [← hAe]; exact Or.inr h
  obtain ⟨H, hHe⟩ : ∃ H : Heap, H = s.heap := ⟨_, rfl⟩
  have hS : va_S A s.heap H [] := by rw [hHe]; exact va_S.rf
  have hP : va_P D vwCl [] H := by rw [hHe]; exact hP
  rw [← hHe]
  have hl := lv_entry [.ref (ad 25)] (n := 1) (Nat.le_of_ble_eq_true rfl)
  rw [lg_entry_eq]
  generalize (lg_sl [.ref (ad 25)] ++ List.replicate (1 - (lg_sl [.ref (ad 25)]).length) Slot.unset).toArray = ls at hl ⊢
  have hl : lv_has ls 1 [(0, .ref (ad 25))] := hl
  have hM : F_J0_length_8abf5_ad25 = 1 := rfl
  refine lv_aload_n hx hb dJ0_length_8abf5_0 rfl (lv_at hl 0 rfl) ?_
  refine vk_getf (o := "java/lang/String") (n := "value") (d := "[B") (q := ad 25) (v := .ref (ad 45)) hx hb ((fxst_ hF).1 5 (by decide)).2.2.1 hS hown (hts (.fieldLink RJ0 9 "java/lang/String" "value" "[B") (List.mem_of_getElem? (i := 1) (by decide +kernel))) (fun _ h9 => h9) dJ0_length_8abf5_1 ?_
  refine va_tlen (v := 1) hx hb ((fxst_ hF).1 5 (by decide)).2.2.2 hS rfl dJ0_length_8abf5_4 ?_
  refine lv_aload_n hx hb dJ0_length_8abf5_5 rfl (lv_at hl 0 rfl) ?_
  refine kr_ (va_runV (As := []) (rest := [.int 1]) ⟨hx, hb, hml, hown, hts⟩ (c_J0_coder_7d493_ad25 l hl0 D ad H.size) (cwV 0 hts gJ0_length_8abf5_J0_coder_7d493 rfl rfl rfl (by decide +kernel) ⟨Nat.le_of_ble_eq_true rfl, Nat.le_of_ble_eq_true rfl⟩) ⟨PR_.blind, vk_recv (fxst_ hF) (i := 5) (by decide) hS, PR_.pre hF hK (hP.sub [] rfl) hS hA [] rfl⟩ rfl rfl hl.1 rfl (lv_room (Nat.le_of_ble_eq_true rfl)) dJ0_length_8abf5_6 ⟨(Nat.le_of_ble_eq_true rfl), (Nat.le_of_ble_eq_true rfl)⟩) hP hS hA (fun H locs hP hS => ?_)
  refine W.eq (g2 := F0 m 9 ls [.int 0, .int 1]) rfl ?_
  refine lv_ishr hx hb dJ0_length_8abf5_9 ?_
  refine kt_ (v := 1) (by decide +kernel) ?_
  refine W.widen (k := 0) (n := 0) (Nat.le_of_ble_eq_true rfl) (Nat.le_of_ble_eq_true rfl) ?_
  exact W.iret (v := 1) hx hb hr (QR_.mk hS (by rw [hM])) hS.2.2 dJ0_length_8abf5_10
def F_J0_isLatin1_aae02_ad25  : Int32 := 1
set_option maxHeartbeats 4000000 in
set_option maxRecDepth 100000 in
theorem c_J0_isLatin1_aae02_ad25 (l : Launch) (hl0 : l.stackTraces = false) (D : va_G) (ad : Nat → Nat) (sz : Nat)  : Met l yJ0_isLatin1_aae02 wsJ0_isLatin1_aae02 ({ frames := 0, cells := 0, slots := 0, locals := 0 }) (PR_ D ad [] [] sz [.ref (ad 25)]) (QR_ (.int (F_J0_isLatin1_aae02_ad25)) (va_A [] sz)) 0 0 (va_A [] sz) := by
  refine Met.ofW (cc := cJ0_isLatin1_aae02) (maxL := 1) (ret := (some .boolean)) (by decide) rfl ?_
  intro p e s m args below meth c s₁ B hml hv
  obtain ⟨rfl, hsz, hP, hK, hF⟩ := hv
  have hx := B.exec
  have hb := B.bytes
  have hr := B.returns
  have hts := atoms_spec (ws := wsJ0_isLatin1_aae02) B.pre
  have hown : s.vm.findClass RJ0 = some m.cls := findClass_of_methodNamed B.named
  have hlocks := B.notSynchronized
  subst hsz
  generalize hAe : va_A [] s.heap.size = A at hF ⊢
  have hA : ∀ q : Nat, s.heap.size ≤ q → A q := fun q h => by rw [← hAe]; exact Or.inr h
  obtain ⟨H, hHe⟩ : ∃ H : Heap, H = s.heap := ⟨_, rfl⟩
  have hS : va_S A s.heap H [] := by rw [hHe]; exact va_S.rf
  have hP : va_P D vwCl [] H := by rw [hHe]; exact hP
  rw [← hHe]
  have hl := lv_entry [.ref (ad 25)] (n := 1) (Nat.le_of_ble_eq_true rfl)
  rw [lg_entry_eq]
  generalize (lg_sl [.ref (ad 25)] ++ List.replicate (1 - (lg_sl [.ref (ad 25)]).length) Slot.unset).toArray = ls at hl ⊢
  have hl : lv_has ls 1 [(0, .ref (ad 25))] := hl
  have hM : F_J0_isLatin1_aae02_ad25 = 1 := rfl
  refine va_gets (C := "java/lang/String") (n := "COMPACT_STRINGS") (d := "Z") (own := RJ0) (ref := "java/lang/String") (v := .int 1) hx hb hF.2.2.2.1 hS hown (hts (.fieldLink RJ0 38 "java/lang/String" "COMPACT_STRINGS" "Z") (List.mem_of_getElem? (i := 1) (by decide +kernel))) (fun _ h9 => h9) dJ0_isLatin1_aae02_0 ?_
  refine lv_if_eq (tgt := 17) hx hb dJ0_isLatin1_aae02_3 (by decide) (fun c9 => absurd c9 (by decide +kernel)) (fun _ => ?_)
  refine lv_aload_n hx hb dJ0_isLatin1_aae02_6 rfl (lv_at hl 0 rfl) ?_
  refine vk_getf (o := "java/lang/String") (n := "coder") (d := "B") (q := ad 25) (v := .int 0) hx hb ((fxst_ hF).1 5 (by decide)).2.1 hS hown (hts (.fieldLink RJ0 15 "java/lang/String" "coder" "B") (List.mem_of_getElem? (i := 2) (by decide +kernel))) (fun _ h9 => h9) dJ0_isLatin1_aae02_7 ?_
  refine lv_if_ne (tgt := 17) hx hb dJ0_isLatin1_aae02_10 (by decide) (fun c9 => absurd (by decide +kernel) c9) (fun _ => ?_)
  refine lv_iconst (v := 1) hx hb dJ0_isLatin1_aae02_13 (by decide) ?_
  refine lv_goto (tgt := 18) hx hb dJ0_isLatin1_aae02_14 (by decide) ?_
  refine W.widen (k := 0) (n := 0) (Nat.le_of_ble_eq_true rfl) (Nat.le_of_ble_eq_true rfl) ?_
  exact W.zret (v := 1) hx hb hr rfl (QR_.mk hS (by rw [hM])) hS.2.2 dJ0_isLatin1_aae02_18
def F_J1_charAt_3b067_0_ad45  : Int32 := 113
set_option maxHeartbeats 4000000 in
set_option maxRecDepth 100000 in
theorem c_J1_charAt_3b067_0_ad45 (l : Launch) (hl0 : l.stackTraces = false) (D : va_G) (ad : Nat → Nat) (sz : Nat)  : Met l yJ1_charAt_3b067 wsJ1_charAt_3b067 ({ frames := 2, cells := 0, slots := 0, locals := 47 }) (PR_ D ad [] [] sz [.ref (ad 45), .int 0]) (QR_ (.int (F_J1_charAt_3b067_0_ad45)) (va_A [] sz)) 0 0 (va_A [] sz) := by
  refine Met.ofW (cc := cJ1_charAt_3b067) (maxL := 2) (ret := (some .char)) (by decide) rfl ?_
  intro p e s m args below meth c s₁ B hml hv
  obtain ⟨rfl, hsz, hP, hK, hF⟩ := hv
  have hx := B.exec
  have hb := B.bytes
  have hr := B.returns
  have hts := atoms_spec (ws := wsJ1_charAt_3b067) B.pre
  have hown : s.vm.findClass RJ1 = some m.cls := findClass_of_methodNamed B.named
  have hlocks := B.notSynchronized
  subst hsz
  generalize hAe : va_A [] s.heap.size = A at hF ⊢
  have hA : ∀ q : Nat, s.heap.size ≤ q → A q := fun q h => by rw [← hAe]; exact Or.inr h
  obtain ⟨H, hHe⟩ : ∃ H : Heap, H = s.heap := ⟨_, rfl⟩
  have hS : va_S A s.heap H [] := by rw [hHe]; exact va_S.rf
  have hP : va_P D vwCl [] H := by rw [hHe]; exact hP
  rw [← hHe]
  have hl := lv_entry [.ref (ad 45), .int 0] (n := 2) (Nat.le_of_ble_eq_true rfl)
  rw [lg_entry_eq]
  generalize (lg_sl [.ref (ad 45), .int 0] ++ List.replicate (2 - (lg_sl [.ref (ad 45), .int 0]).length) Slot.unset).toArray = ls at hl ⊢
  have hl : lv_has ls 2 [(0, .ref (ad 45)), (1, .int 0)] := hl
  have hM : F_J1_charAt_3b067_0_ad45 = 113 := rfl
  refine lv_iload_n hx hb dJ1_charAt_3b067_0 rfl (lv_at hl 1 rfl) ?_
  refine lv_aload_n hx hb dJ1_charAt_3b067_1 rfl (lv_at hl 0 rfl) ?_
  refine va_tlen (v := 1) hx hb ((fxst_ hF).1 5 (by decide)).2.2.2 hS rfl dJ1_charAt_3b067_2 ?_
  refine krv_ (va_runS (As := [.int 0, .int 1]) (rest := []) ⟨hx, hb, hml, hown, hts⟩ (c_J0_checkIndex_df160 l hl0 D ad H.size 0 1 (by decide +kernel) (by decide +kernel)) (va_cwS 2 hts gJ1_charAt_3b067_J0_checkIndex_df160 rfl rfl rfl (by decide +kernel) ⟨Nat.le_of_ble_eq_true rfl, Nat.le_of_ble_eq_true rfl⟩) ⟨PR_.blind, PR_.pre hF hK (hP.sub [] rfl) hS hA [] rfl⟩ rfl rfl hl.1 rfl (lv_room (Nat.le_of_ble_eq_true rfl)) dJ1_charAt_3b067_3 ⟨(Nat.le_of_ble_eq_true rfl), (Nat.le_of_ble_eq_true rfl)⟩) hP hS hA (fun H locs hP hS => ?_)
  refine W.eq (g2 := F0 m 6 ls []) rfl ?_
  refine lv_aload_n hx hb dJ1_charAt_3b067_6 rfl (lv_at hl 0 rfl) ?_
  refine lv_iload_n hx hb dJ1_charAt_3b067_7 rfl (lv_at hl 1 rfl) ?_
  refine va_tb (v := .int 113) hx hb ((fxst_ hF).1 5 (by decide)).2.2.2 hS (vin_ (by decide +kernel)) rfl dJ1_charAt_3b067_8 ?_
  refine lv_sipush (v := 255) hx hb dJ1_charAt_3b067_9 (by decide +kernel) ?_
  refine lv_iand hx hb dJ1_charAt_3b067_12 ?_
  refine kt_ (v := 113) (by decide +kernel) ?_
  refine lv_i2c (v := 113) hx hb dJ1_charAt_3b067_13 (by decide +kernel) ?_
  refine W.widen (k := 0) (n := 0) (Nat.le_of_ble_eq_true rfl) (Nat.le_of_ble_eq_true rfl) ?_
  exact W.zret (v := 113) hx hb hr rfl (QR_.mk hS (by rw [hM])) hS.2.2 dJ1_charAt_3b067_14
def F_J0_charAt_5068e_0_ad25  : Int32 := 113
set_option maxHeartbeats 4000000 in
set_option maxRecDepth 100000 in
theorem c_J0_charAt_5068e_0_ad25 (l : Launch) (hl0 : l.stackTraces = false) (D : va_G) (ad : Nat → Nat) (sz : Nat)  : Met l yJ0_charAt_5068e wsJ0_charAt_5068e ({ frames := 3, cells := 0, slots := 0, locals := 70 }) (PR_ D ad [] [] sz [.ref (ad 25), .int 0]) (QR_ (.int (F_J0_charAt_5068e_0_ad25)) (va_A [] sz)) 0 0 (va_A [] sz) := by
  refine Met.ofW (cc := cJ0_charAt_5068e) (maxL := 2) (ret := (some .char)) (by decide) rfl ?_
  intro p e s m args below meth c s₁ B hml hv
  obtain ⟨rfl, hsz, hP, hK, hF⟩ := hv
  have hx := B.exec
  have hb := B.bytes
  have hr := B.returns
  have hts := atoms_spec (ws := wsJ0_charAt_5068e) B.pre
  have hown : s.vm.findClass RJ0 = some m.cls := findClass_of_methodNamed B.named
  have hlocks := B.notSynchronized
  subst hsz
  generalize hAe : va_A [] s.heap.size = A at hF ⊢
  have hA : ∀ q : Nat, s.heap.size ≤ q → A q := fun q h => by rw [← hAe]; exact Or.inr h
  obtain ⟨H, hHe⟩ : ∃ H : Heap, H = s.heap := ⟨_, rfl⟩
  have hS : va_S A s.heap H [] := by rw [hHe]; exact va_S.rf
  have hP : va_P D vwCl [] H := by rw [hHe]; exact hP
  rw [← hHe]
  have hl := lv_entry [.ref (ad 25), .int 0] (n := 2) (Nat.le_of_ble_eq_true rfl)
  rw [lg_entry_eq]
  generalize (lg_sl [.ref (ad 25), .int 0] ++ List.replicate (2 - (lg_sl [.ref (ad 25), .int 0]).length) Slot.unset).toArray = ls at hl ⊢
  have hl : lv_has ls 2 [(0, .ref (ad 25)), (1, .int 0)] := hl
  have hM : F_J0_charAt_5068e_0_ad25 = 113 := rfl
  refine lv_aload_n hx hb dJ0_charAt_5068e_0 rfl (lv_at hl 0 rfl) ?_
  refine kr_ (va_runV (As := []) (rest := []) ⟨hx, hb, hml, hown, hts⟩ (c_J0_isLatin1_aae02_ad25 l hl0 D ad H.size) (cwV 0 hts gJ0_charAt_5068e_J0_isLatin1_aae02 rfl rfl rfl (by decide +kernel) ⟨Nat.le_of_ble_eq_true rfl, Nat.le_of_ble_eq_true rfl⟩) ⟨PR_.blind, vk_recv (fxst_ hF) (i := 5) (by decide) hS, PR_.pre hF hK (hP.sub [] rfl) hS hA [] rfl⟩ rfl rfl hl.1 rfl (lv_room (Nat.le_of_ble_eq_true rfl)) dJ0_charAt_5068e_1 ⟨(Nat.le_of_ble_eq_true rfl), (Nat.le_of_ble_eq_true rfl)⟩) hP hS hA (fun H locs hP hS => ?_)
  refine W.eq (g2 := F0 m 4 ls [.int 1]) rfl ?_
  refine lv_if_eq (tgt := 16) hx hb dJ0_charAt_5068e_4 (by decide) (fun c9 => absurd c9 (by decide +kernel)) (fun _ => ?_)
  refine lv_aload_n hx hb dJ0_charAt_5068e_7 rfl (lv_at hl 0 rfl) ?_
  refine vk_getf (o := "java/lang/String") (n := "value") (d := "[B") (q := ad 25) (v := .ref (ad 45)) hx hb ((fxst_ hF).1 5 (by decide)).2.2.1 hS hown (hts (.fieldLink RJ0 9 "java/lang/String" "value" "[B") (List.mem_of_getElem? (i := 1) (by decide +kernel))) (fun _ h9 => h9) dJ0_charAt_5068e_8 ?_
  refine lv_iload_n hx hb dJ0_charAt_5068e_11 rfl (lv_at hl 1 rfl) ?_
  refine kr_ (va_runS (As := [.ref (ad 45), .int 0]) (rest := []) ⟨hx, hb, hml, hown, hts⟩ (c_J1_charAt_3b067_0_ad45 l hl0 D ad H.size) (va_cwS 2 hts gJ0_charAt_5068e_J1_charAt_3b067 rfl rfl rfl (by decide +kernel) ⟨Nat.le_of_ble_eq_true rfl, Nat.le_of_ble_eq_true rfl⟩) ⟨PR_.blind, PR_.pre hF hK (hP.sub [] rfl) hS hA [] rfl⟩ rfl rfl hl.1 rfl (lv_room (Nat.le_of_ble_eq_true rfl)) dJ0_charAt_5068e_12 ⟨(Nat.le_of_ble_eq_true rfl), (Nat.le_of_ble_eq_true rfl)⟩) hP hS hA (fun H locs hP hS => ?_)
  refine W.eq (g2 := F0 m 15 ls [.int 113]) rfl ?_
  refine W.widen (k := 0) (n := 0) (Nat.le_of_ble_eq_true rfl) (Nat.le_of_ble_eq_true rfl) ?_
  exact W.zret (v := 113) hx hb hr rfl (QR_.mk hS (by rw [hM])) hS.2.2 dJ0_charAt_5068e_15
def K_L_reads_36  : (Int32 × MS × Nat × Nat) → (Int32 × MS × Nat × Nat)
  | (y36_0, y36_1, y36_2, y36_3) => (adc y36_2 y36_3 (y36_0, y36_1, 0, 0))
def K_L_reads_16  : (Int32 × MS × Nat × Nat) → (Int32 × MS × Nat × Nat)
  | (y16_0, y16_1, y16_2, y16_3) => (adc y16_2 y16_3 (if y16_0 = 1 then (K_L_reads_36 (F_L_commands y16_1)) else ((-9999), y16_1, 0, 0)))
def F_L_reads_5 (M : MS) : Int32 × MS × Nat × Nat := (K_L_reads_16 (F_L_append M 113))
set_option maxHeartbeats 4000000 in
set_option maxRecDepth 100000 in
theorem bl_L_reads_5 (l : Launch) (hl0 : l.stackTraces = false) (D : va_G) (ad : Nat → Nat) (sz : Nat) (b : BX) (hBL : BL_ b) (a0 : Nat) (hb9 : b.1 79 = a0) (M : MS) (hM9 : b.2.2.2 = M) (Bd : Nat) (hXI : XI Bd M) (hBd : Bd + 36600 ≤ 900000) : Met l yL_reads wsL_reads ({ frames := 14, cells := (F_L_reads_5 M).2.2.1, slots := (F_L_reads_5 M).2.2.2, locals := 378 }) (PC_ D ad (BWW ad b) (BWT b) sz [.ref a0, .ref (ad 25)]) (QB_ D (fun _ : BX => some (.int (F_L_reads_5 M).1)) (fun b' => b'.2.2.2 = (F_L_reads_5 M).2.1 ∧ b'.1 79 = a0 ∧ BL_ b' ∧ XI (Bd + 36600) (F_L_reads_5 M).2.1) (BWW ad) BWT (va_A (BWW ad b) sz)) (F_L_reads_5 M).2.2.1 (F_L_reads_5 M).2.2.2 (va_A (BWW ad b) sz) := by
  refine Met.ofW (cc := cL_reads) (maxL := 3) (ret := (some .int)) (by decide) rfl ?_
  intro p e s m args below meth c s₁ B hml hv
  obtain ⟨rfl, hsz, hP, hK, hD0, hF⟩ := hv
  have hx := B.exec
  have hb := B.bytes
  have hr := B.returns
  have hts := atoms_spec (ws := wsL_reads) B.pre
  have hown : s.vm.findClass RL = some m.cls := findClass_of_methodNamed B.named
  have hlocks := B.notSynchronized
  subst hsz
  have hD := hD0.self (sz := s.heap.size)
  generalize hAe : va_A (BWW ad b) s.heap.size = A at hD hF ⊢
  have hA : ∀ q : Nat, s.heap.size ≤ q → A q := fun q h => by rw [← hAe]; exact Or.inr h
  obtain ⟨H, hHe⟩ : ∃ H : Heap, H = s.heap := ⟨_, rfl⟩
  have hS : va_S A s.heap H [] := by rw [hHe]; exact va_S.rf
  have hP : va_P D vwCl ([] ++ BWW ad b) H := by rw [hHe]; exact hP
  have hD : va_D A ([] ++ BWW ad b) := hD
  have hK : va_K D vwCl ([] ++ BWT b) s := hK
  rw [← hHe]
  have hl := lv_entry [.ref a0, .ref (ad 25)] (n := 3) (Nat.le_of_ble_eq_true rfl)
  rw [lg_entry_eq]
  generalize (lg_sl [.ref a0, .ref (ad 25)] ++ List.replicate (3 - (lg_sl [.ref a0, .ref (ad 25)]).length) Slot.unset).toArray = ls at hl ⊢
  have hl : lv_has ls 3 [(0, .ref a0), (1, .ref (ad 25))] := hl
  generalize hF9 : F_L_reads_5 M = FF9
  have hM : FF9 = (adc 0 0 (K_L_reads_16 (F_L_append M 113))) := hF9.symm.trans (adc_0 _).symm
  refine lv_iconst (v := 0) hx hb dL_reads_0 (by decide) ?_
  refine lv_istore_n (lv' := [(2, .int 0), (0, .ref a0), (1, .ref (ad 25))]) hx hb dL_reads_1 rfl hl (by decide) rfl (fun ls hl => ?_)
  refine lv_iload_n hx hb dL_reads_2 rfl (lv_at hl 0 rfl) ?_
  refine lv_aload_n hx hb dL_reads_3 rfl (lv_at hl 2 rfl) ?_
  refine kr_ (va_runV (As := []) (rest := [.int 0]) ⟨hx, hb, hml, hown, hts⟩ (c_J0_length_8abf5_ad25 l hl0 D ad H.size) (cwV 0 hts gL_reads_J0_length_8abf5 rfl rfl rfl (by decide +kernel) ⟨Nat.le_of_ble_eq_true rfl, Nat.le_of_ble_eq_true rfl⟩) ⟨PR_.blind, vk_recv (fxst_ hF) (i := 5) (by decide) hS, PR_.pre hF hK (hP.sub [] rfl) hS hA [] rfl⟩ rfl rfl hl.1 rfl (lv_room (Nat.le_of_ble_eq_true rfl)) dL_reads_4 ⟨(adc_r0 hM), (adc_s0 hM)⟩) hP hS hA (fun H locs hP hS => ?_)
  refine W.eq (g2 := F0 m 7 ls [.int 1, .int 0]) rfl ?_
  refine lv_icmp_ge (tgt := 35) hx hb dL_reads_7 (by decide) (fun c9 => absurd c9 (by decide +kernel)) (fun _ => ?_)
  refine lv_aload_n hx hb dL_reads_10 rfl (lv_at hl 1 rfl) ?_
  refine lv_aload_n hx hb dL_reads_11 rfl (lv_at hl 2 rfl) ?_
  refine lv_iload_n hx hb dL_reads_12 rfl (lv_at hl 0 rfl) ?_
  refine kr_ (va_runV (As := [.int 0]) (rest := [.ref a0]) ⟨hx, hb, hml, hown, hts⟩ (c_J0_charAt_5068e_0_ad25 l hl0 D ad H.size) (cwV 1 hts gL_reads_J0_charAt_5068e rfl rfl rfl (by decide +kernel) ⟨Nat.le_of_ble_eq_true rfl, Nat.le_of_ble_eq_true rfl⟩) ⟨PR_.blind, vk_recv (fxst_ hF) (i := 5) (by decide) hS, PR_.pre hF hK (hP.sub [] rfl) hS hA [] rfl⟩ rfl rfl hl.1 rfl (lv_room (Nat.le_of_ble_eq_true rfl)) dL_reads_13 ⟨(adc_r0 hM), (adc_s0 hM)⟩) hP hS hA (fun H locs hP hS => ?_)
  refine W.eq (g2 := F0 m 16 ls [.int 113, .ref a0]) rfl ?_
  have hcon := (bl_L_append l hl0 D ad H.size b hBL a0 hb9 M hM9 Bd hXI (show Bd ≤ 900000 from (by have z0 := hBd; omega)) 113)
  generalize hy_3 : (F_L_append M 113) = y9 at hcon hM
  obtain ⟨y16_0, y16_1, y16_2, y16_3⟩ := y9
  have hM : FF9 = (adc 0 0 (adc y16_2 y16_3 (if y16_0 = 1 then (K_L_reads_36 (F_L_commands y16_1)) else ((-9999), y16_1, 0, 0)))) := hM
  refine kwb_ [] [] (vx_runSW (As := [.ref a0, .int 113]) (rest := []) ⟨hx, hb, hml, hown, hts⟩ hcon (vx_cwSW 2 hts gL_reads_L_append rfl rfl rfl (by decide +kernel) ⟨Nat.le_of_ble_eq_true rfl, Nat.le_of_ble_eq_true rfl⟩) ⟨PC_.blind, lw_pre (X := []) (Y := []) hF hK hP hD hS hA⟩ rfl rfl hl.1 rfl (lv_room (Nat.le_of_ble_eq_true rfl)) dL_reads_16 ⟨(adc_r1 hM), (adc_s1 hM)⟩) hK hP hD hS hA (fun b_3 H locs hpo hP hD hK hS => ?_)
  have hM : FF9 = (adc (0 + y16_2) (0 + y16_3) (if y16_0 = 1 then (K_L_reads_36 (F_L_commands y16_1)) else ((-9999), y16_1, 0, 0))) := hM.trans (adc_adc _ _ _ _ _)
  obtain ⟨hM9_3, hb9_3, hBL_3, hXI_3⟩ := hpo
  have hM9_3 : b_3.2.2.2 = y16_1 := hM9_3
  have hXI_3 : XI Bd y16_1 := hXI_3
  have hP : va_P D vwCl ([] ++ BWW ad b_3) H := hP
  have hD : va_D A ([] ++ BWW ad b_3) := hD
  have hK : va_K D vwCl ([] ++ BWT b_3) s := hK
  refine W.eq (g2 := F0 m 19 ls [.int y16_0]) rfl ?_
  refine lv_iload_n hx hb dL_reads_19 rfl (lv_at hl 0 rfl) ?_
  refine lv_iconst (v := 1) hx hb dL_reads_20 (by decide) ?_
  refine lv_iadd hx hb dL_reads_21 ?_
  refine kt_ (v := 1) (by decide +kernel) ?_
  refine lv_icmp_eq (tgt := 29) hx hb dL_reads_22 (by decide) (fun c_4 => ?_) (fun c_4 => ?_)
  · rw [if_pos c_4] at hM
    refine lv_iinc (v := 1) (lv' := [(2, .int 1), (0, .ref a0), (1, .ref (ad 25))]) hx hb dL_reads_29 hl (k := 0) rfl (by decide +kernel) (by decide) rfl (fun ls hl => ?_)
    refine lv_goto (tgt := 2) hx hb dL_reads_32 (by decide) ?_
    refine lv_iload_n hx hb dL_reads_2 rfl (lv_at hl 0 rfl) ?_
    refine lv_aload_n hx hb dL_reads_3 rfl (lv_at hl 2 rfl) ?_
    refine kr_ (va_runV (As := []) (rest := [.int 1]) ⟨hx, hb, hml, hown, hts⟩ (c_J0_length_8abf5_ad25 l hl0 D ad H.size) (cwV 0 hts gL_reads_J0_length_8abf5 rfl rfl rfl (by decide +kernel) ⟨Nat.le_of_ble_eq_true rfl, Nat.le_of_ble_eq_true rfl⟩) ⟨PR_.blind, vk_recv (fxst_ hF) (i := 5) (by decide) hS, PR_.pre hF hK (hP.sub [] rfl) hS hA [] rfl⟩ rfl rfl hl.1 rfl (lv_room (Nat.le_of_ble_eq_true rfl)) dL_reads_4 ⟨(adc_r0 hM), (adc_s0 hM)⟩) hP hS hA (fun H locs hP hS => ?_)
    refine W.eq (g2 := F0 m 7 ls [.int 1, .int 1]) rfl ?_
    refine lv_icmp_ge (tgt := 35) hx hb dL_reads_7 (by decide) (fun _ => ?_) (fun c9 => absurd (by decide +kernel) c9)
    refine lv_aload_n hx hb dL_reads_35 rfl (lv_at hl 1 rfl) ?_
    have hcon := (bl_L_commands l hl0 D ad H.size b_3 hBL_3 a0 hb9_3 y16_1 hM9_3 Bd hXI_3 (show (Bd + 36600) ≤ 900000 from (by have y0 := f_eq c_4; have z0 := hBd; have e_1 : (1 : Int32).toInt = 1 := (by decide +kernel); omega)))
    generalize hy_6 : (F_L_commands y16_1) = y9 at hcon hM
    obtain ⟨y36_0, y36_1, y36_2, y36_3⟩ := y9
    have hM : FF9 = (adc (0 + y16_2) (0 + y16_3) (adc y36_2 y36_3 (y36_0, y36_1, 0, 0))) := hM
    refine kwb_ [] [] (vx_runSW (As := [.ref a0]) (rest := []) ⟨hx, hb, hml, hown, hts⟩ hcon (vx_cwSW 1 hts gL_reads_L_commands rfl rfl rfl (by decide +kernel) ⟨Nat.le_of_ble_eq_true rfl, Nat.le_of_ble_eq_true rfl⟩) ⟨PC_.blind, lw_pre (X := []) (Y := []) hF hK hP hD hS hA⟩ rfl rfl hl.1 rfl (lv_room (Nat.le_of_ble_eq_true rfl)) dL_reads_36 ⟨(adc_r1 hM), (adc_s1 hM)⟩) hK hP hD hS hA (fun b_6 H locs hpo hP hD hK hS => ?_)
    have hM : FF9 = (adc ((0 + y16_2) + y36_2) ((0 + y16_3) + y36_3) (y36_0, y36_1, 0, 0)) := hM.trans (adc_adc _ _ _ _ _)
    obtain ⟨hM9_6, hb9_6, hBL_6, hXI_6⟩ := hpo
    have hM9_6 : b_6.2.2.2 = y36_1 := hM9_6
    have hXI_6 : XI (Bd + 36600) y36_1 := hXI_6
    have hP : va_P D vwCl ([] ++ BWW ad b_6) H := hP
    have hD : va_D A ([] ++ BWW ad b_6) := hD
    have hK : va_K D vwCl ([] ++ BWT b_6) s := hK
    refine W.eq (g2 := F0 m 39 ls [.int y36_0]) rfl ?_
    refine W.widen (k := (FF9).2.2.1) (n := (FF9).2.2.2) (Nat.le_of_eq (by rw [hM]; first | done | rfl)) (Nat.le_of_eq (by rw [hM]; first | done | rfl)) ?_
    exact W.iret (v := y36_0) hx hb hr (lw_ret (X := []) (Y := []) b_6 hP hD hK hS (by rw [hM]; first | done | rfl) ⟨(by rw [hM]; exact hM9_6), hb9_6, hBL_6, (by rw [hM]; exact XI.mono hXI_6 (show (Bd + 36600) ≤ Bd + 36600 from (by have y0 := f_eq c_4; have z0 := hBd; have e_1 : (1 : Int32).toInt = 1 := (by decide +kernel); omega)))⟩) hS.2.2 dL_reads_39
  · rw [if_neg c_4] at hM
    refine lv_sipush (v := (-9999)) hx hb dL_reads_25 (by decide +kernel) ?_
    refine W.widen (k := (FF9).2.2.1) (n := (FF9).2.2.2) (Nat.le_of_eq (by rw [hM]; first | done | rfl)) (Nat.le_of_eq (by rw [hM]; first | done | rfl)) ?_
    exact W.iret (v := (-9999)) hx hb hr (lw_ret (X := []) (Y := []) b_3 hP hD hK hS (by rw [hM]; first | done | rfl) ⟨(by rw [hM]; exact hM9_3), hb9_3, hBL_3, (by rw [hM]; exact XI.mono hXI_3 (show Bd ≤ Bd + 36600 from (by have y0 := f_neq c_4; have z0 := hBd; have e_1 : (1 : Int32).toInt = 1 := (by decide +kernel); omega)))⟩) hS.2.2 dL_reads_28
def F_J0_coder_7d493_ad26  : Int32 := 0
set_option maxHeartbeats 4000000 in
set_option maxRecDepth 100000 in
theorem c_J0_coder_7d493_ad26 (l : Launch) (hl0 : l.stackTraces = false) (D : va_G) (ad : Nat → Nat) (sz : Nat)  : Met l yJ0_coder_7d493 wsJ0_coder_7d493 ({ frames := 0, cells := 0, slots := 0, locals := 0 }) (PR_ D ad [] [] sz [.ref (ad 26)]) (QR_ (.int (F_J0_coder_7d493_ad26)) (va_A [] sz)) 0 0 (va_A [] sz) := by
  refine Met.ofW (cc := cJ0_coder_7d493) (maxL := 1) (ret := (some .byte)) (by decide) rfl ?_
  intro p e s m args below meth c s₁ B hml hv
  obtain ⟨rfl, hsz, hP, hK, hF⟩ := hv
  have hx := B.exec
  have hb := B.bytes
  have hr := B.returns
  have hts := atoms_spec (ws := wsJ0_coder_7d493) B.pre
  have hown : s.vm.findClass RJ0 = some m.cls := findClass_of_methodNamed B.named
  have hlocks := B.notSynchronized
  subst hsz
  generalize hAe : va_A [] s.heap.size = A at hF ⊢
  have hA : ∀ q : Nat, s.heap.size ≤ q → A q := fun q h => by rw [← hAe]; exact Or.inr h
  obtain ⟨H, hHe⟩ : ∃ H : Heap, H = s.heap := ⟨_, rfl⟩
  have hS : va_S A s.heap H [] := by rw [hHe]; exact va_S.rf
  have hP : va_P D vwCl [] H := by rw [hHe]; exact hP
  rw [← hHe]
  have hl := lv_entry [.ref (ad 26)] (n := 1) (Nat.le_of_ble_eq_true rfl)
  rw [lg_entry_eq]
  generalize (lg_sl [.ref (ad 26)] ++ List.replicate (1 - (lg_sl [.ref (ad 26)]).length) Slot.unset).toArray = ls at hl ⊢
  have hl : lv_has ls 1 [(0, .ref (ad 26))] := hl
  have hM : F_J0_coder_7d493_ad26 = 0 := rfl
  refine va_gets (C := "java/lang/String") (n := "COMPACT_STRINGS") (d := "Z") (own := RJ0) (ref := "java/lang/String") (v := .int 1) hx hb hF.2.2.2.1 hS hown (hts (.fieldLink RJ0 38 "java/lang/String" "COMPACT_STRINGS" "Z") (List.mem_of_getElem? (i := 1) (by decide +kernel))) (fun _ h9 => h9) dJ0_coder_7d493_0 ?_
  refine lv_if_eq (tgt := 13) hx hb dJ0_coder_7d493_3 (by decide) (fun c9 => absurd c9 (by decide +kernel)) (fun _ => ?_)
  refine lv_aload_n hx hb dJ0_coder_7d493_6 rfl (lv_at hl 0 rfl) ?_
  refine vk_getf (o := "java/lang/String") (n := "coder") (d := "B") (q := ad 26) (v := .int 0) hx hb ((fxst_ hF).1 6 (by decide)).2.1 hS hown (hts (.fieldLink RJ0 15 "java/lang/String" "coder" "B") (List.mem_of_getElem? (i := 2) (by decide +kernel))) (fun _ h9 => h9) dJ0_coder_7d493_7 ?_
  refine lv_goto (tgt := 14) hx hb dJ0_coder_7d493_10 (by decide) ?_
  refine W.widen (k := 0) (n := 0) (Nat.le_of_ble_eq_true rfl) (Nat.le_of_ble_eq_true rfl) ?_
  exact W.zret (v := 0) hx hb hr rfl (QR_.mk hS (by rw [hM])) hS.2.2 dJ0_coder_7d493_14
def F_J0_length_8abf5_ad26  : Int32 := 8
set_option maxHeartbeats 4000000 in
set_option maxRecDepth 100000 in
theorem c_J0_length_8abf5_ad26 (l : Launch) (hl0 : l.stackTraces = false) (D : va_G) (ad : Nat → Nat) (sz : Nat)  : Met l yJ0_length_8abf5 wsJ0_length_8abf5 ({ frames := 1, cells := 0, slots := 0, locals := 22 }) (PR_ D ad [] [] sz [.ref (ad 26)]) (QR_ (.int (F_J0_length_8abf5_ad26)) (va_A [] sz)) 0 0 (va_A [] sz) := by
  refine Met.ofW (cc := cJ0_length_8abf5) (maxL := 1) (ret := (some .int)) (by decide) rfl ?_
  intro p e s m args below meth c s₁ B hml hv
  obtain ⟨rfl, hsz, hP, hK, hF⟩ := hv
  have hx := B.exec
  have hb := B.bytes
  have hr := B.returns
  have hts := atoms_spec (ws := wsJ0_length_8abf5) B.pre
  have hown : s.vm.findClass RJ0 = some m.cls := findClass_of_methodNamed B.named
  have hlocks := B.notSynchronized
  subst hsz
  generalize hAe : va_A [] s.heap.size = A at hF ⊢
  have hA : ∀ q : Nat, s.heap.size ≤ q → A q := fun q h => by rw [← hAe]; exact Or.inr h
  obtain ⟨H, hHe⟩ : ∃ H : Heap, H = s.heap := ⟨_, rfl⟩
  have hS : va_S A s.heap H [] := by rw [hHe]; exact va_S.rf
  have hP : va_P D vwCl [] H := by rw [hHe]; exact hP
  rw [← hHe]
  have hl := lv_entry [.ref (ad 26)] (n := 1) (Nat.le_of_ble_eq_true rfl)
  rw [lg_entry_eq]
  generalize (lg_sl [.ref (ad 26)] ++ List.replicate (1 - (lg_sl [.ref (ad 26)]).length) Slot.unset).toArray = ls at hl ⊢
  have hl : lv_has ls 1 [(0, .ref (ad 26))] := hl
  have hM : F_J0_length_8abf5_ad26 = 8 := rfl
  refine lv_aload_n hx hb dJ0_length_8abf5_0 rfl (lv_at hl 0 rfl) ?_
  refine vk_getf (o := "java/lang/String") (n := "value") (d := "[B") (q := ad 26) (v := .ref (ad 46)) hx hb ((fxst_ hF).1 6 (by decide)).2.2.1 hS hown (hts (.fieldLink RJ0 9 "java/lang/String" "value" "[B") (List.mem_of_getElem? (i := 1) (by decide +kernel))) (fun _ h9 => h9) dJ0_length_8abf5_1 ?_
  refine va_tlen (v := 8) hx hb ((fxst_ hF).1 6 (by decide)).2.2.2 hS rfl dJ0_length_8abf5_4 ?_
  refine lv_aload_n hx hb dJ0_length_8abf5_5 rfl (lv_at hl 0 rfl) ?_
  refine kr_ (va_runV (As := []) (rest := [.int 8]) ⟨hx, hb, hml, hown, hts⟩ (c_J0_coder_7d493_ad26 l hl0 D ad H.size) (cwV 0 hts gJ0_length_8abf5_J0_coder_7d493 rfl rfl rfl (by decide +kernel) ⟨Nat.le_of_ble_eq_true rfl, Nat.le_of_ble_eq_true rfl⟩) ⟨PR_.blind, vk_recv (fxst_ hF) (i := 6) (by decide) hS, PR_.pre hF hK (hP.sub [] rfl) hS hA [] rfl⟩ rfl rfl hl.1 rfl (lv_room (Nat.le_of_ble_eq_true rfl)) dJ0_length_8abf5_6 ⟨(Nat.le_of_ble_eq_true rfl), (Nat.le_of_ble_eq_true rfl)⟩) hP hS hA (fun H locs hP hS => ?_)
  refine W.eq (g2 := F0 m 9 ls [.int 0, .int 8]) rfl ?_
  refine lv_ishr hx hb dJ0_length_8abf5_9 ?_
  refine kt_ (v := 8) (by decide +kernel) ?_
  refine W.widen (k := 0) (n := 0) (Nat.le_of_ble_eq_true rfl) (Nat.le_of_ble_eq_true rfl) ?_
  exact W.iret (v := 8) hx hb hr (QR_.mk hS (by rw [hM])) hS.2.2 dJ0_length_8abf5_10
def F_J0_isLatin1_aae02_ad26  : Int32 := 1
set_option maxHeartbeats 4000000 in
set_option maxRecDepth 100000 in
theorem c_J0_isLatin1_aae02_ad26 (l : Launch) (hl0 : l.stackTraces = false) (D : va_G) (ad : Nat → Nat) (sz : Nat)  : Met l yJ0_isLatin1_aae02 wsJ0_isLatin1_aae02 ({ frames := 0, cells := 0, slots := 0, locals := 0 }) (PR_ D ad [] [] sz [.ref (ad 26)]) (QR_ (.int (F_J0_isLatin1_aae02_ad26)) (va_A [] sz)) 0 0 (va_A [] sz) := by
  refine Met.ofW (cc := cJ0_isLatin1_aae02) (maxL := 1) (ret := (some .boolean)) (by decide) rfl ?_
  intro p e s m args below meth c s₁ B hml hv
  obtain ⟨rfl, hsz, hP, hK, hF⟩ := hv
  have hx := B.exec
  have hb := B.bytes
  have hr := B.returns
  have hts := atoms_spec (ws := wsJ0_isLatin1_aae02) B.pre
  have hown : s.vm.findClass RJ0 = some m.cls := findClass_of_methodNamed B.named
  have hlocks := B.notSynchronized
  subst hsz
  generalize hAe : va_A [] s.heap.size = A at hF ⊢
  have hA : ∀ q : Nat, s.heap.size ≤ q → A q := fun q h => by rw [← hAe]; exact Or.inr h
  obtain ⟨H, hHe⟩ : ∃ H : Heap, H = s.heap := ⟨_, rfl⟩
  have hS : va_S A s.heap H [] := by rw [hHe]; exact va_S.rf
  have hP : va_P D vwCl [] H := by rw [hHe]; exact hP
  rw [← hHe]
  have hl := lv_entry [.ref (ad 26)] (n := 1) (Nat.le_of_ble_eq_true rfl)
  rw [lg_entry_eq]
  generalize (lg_sl [.ref (ad 26)] ++ List.replicate (1 - (lg_sl [.ref (ad 26)]).length) Slot.unset).toArray = ls at hl ⊢
  have hl : lv_has ls 1 [(0, .ref (ad 26))] := hl
  have hM : F_J0_isLatin1_aae02_ad26 = 1 := rfl
  refine va_gets (C := "java/lang/String") (n := "COMPACT_STRINGS") (d := "Z") (own := RJ0) (ref := "java/lang/String") (v := .int 1) hx hb hF.2.2.2.1 hS hown (hts (.fieldLink RJ0 38 "java/lang/String" "COMPACT_STRINGS" "Z") (List.mem_of_getElem? (i := 1) (by decide +kernel))) (fun _ h9 => h9) dJ0_isLatin1_aae02_0 ?_
  refine lv_if_eq (tgt := 17) hx hb dJ0_isLatin1_aae02_3 (by decide) (fun c9 => absurd c9 (by decide +kernel)) (fun _ => ?_)
  refine lv_aload_n hx hb dJ0_isLatin1_aae02_6 rfl (lv_at hl 0 rfl) ?_
  refine vk_getf (o := "java/lang/String") (n := "coder") (d := "B") (q := ad 26) (v := .int 0) hx hb ((fxst_ hF).1 6 (by decide)).2.1 hS hown (hts (.fieldLink RJ0 15 "java/lang/String" "coder" "B") (List.mem_of_getElem? (i := 2) (by decide +kernel))) (fun _ h9 => h9) dJ0_isLatin1_aae02_7 ?_
  refine lv_if_ne (tgt := 17) hx hb dJ0_isLatin1_aae02_10 (by decide) (fun c9 => absurd (by decide +kernel) c9) (fun _ => ?_)
  refine lv_iconst (v := 1) hx hb dJ0_isLatin1_aae02_13 (by decide) ?_
  refine lv_goto (tgt := 18) hx hb dJ0_isLatin1_aae02_14 (by decide) ?_
  refine W.widen (k := 0) (n := 0) (Nat.le_of_ble_eq_true rfl) (Nat.le_of_ble_eq_true rfl) ?_
  exact W.zret (v := 1) hx hb hr rfl (QR_.mk hS (by rw [hM])) hS.2.2 dJ0_isLatin1_aae02_18
def F_J1_charAt_3b067_0_ad46  : Int32 := 116
set_option maxHeartbeats 4000000 in
set_option maxRecDepth 100000 in
theorem c_J1_charAt_3b067_0_ad46 (l : Launch) (hl0 : l.stackTraces = false) (D : va_G) (ad : Nat → Nat) (sz : Nat)  : Met l yJ1_charAt_3b067 wsJ1_charAt_3b067 ({ frames := 2, cells := 0, slots := 0, locals := 47 }) (PR_ D ad [] [] sz [.ref (ad 46), .int 0]) (QR_ (.int (F_J1_charAt_3b067_0_ad46)) (va_A [] sz)) 0 0 (va_A [] sz) := by
  refine Met.ofW (cc := cJ1_charAt_3b067) (maxL := 2) (ret := (some .char)) (by decide) rfl ?_
  intro p e s m args below meth c s₁ B hml hv
  obtain ⟨rfl, hsz, hP, hK, hF⟩ := hv
  have hx := B.exec
  have hb := B.bytes
  have hr := B.returns
  have hts := atoms_spec (ws := wsJ1_charAt_3b067) B.pre
  have hown : s.vm.findClass RJ1 = some m.cls := findClass_of_methodNamed B.named
  have hlocks := B.notSynchronized
  subst hsz
  generalize hAe : va_A [] s.heap.size = A at hF ⊢
  have hA : ∀ q : Nat, s.heap.size ≤ q → A q := fun q h => by rw [← hAe]; exact Or.inr h
  obtain ⟨H, hHe⟩ : ∃ H : Heap, H = s.heap := ⟨_, rfl⟩
  have hS : va_S A s.heap H [] := by rw [hHe]; exact va_S.rf
  have hP : va_P D vwCl [] H := by rw [hHe]; exact hP
  rw [← hHe]
  have hl := lv_entry [.ref (ad 46), .int 0] (n := 2) (Nat.le_of_ble_eq_true rfl)
  rw [lg_entry_eq]
  generalize (lg_sl [.ref (ad 46), .int 0] ++ List.replicate (2 - (lg_sl [.ref (ad 46), .int 0]).length) Slot.unset).toArray = ls at hl ⊢
  have hl : lv_has ls 2 [(0, .ref (ad 46)), (1, .int 0)] := hl
  have hM : F_J1_charAt_3b067_0_ad46 = 116 := rfl
  refine lv_iload_n hx hb dJ1_charAt_3b067_0 rfl (lv_at hl 1 rfl) ?_
  refine lv_aload_n hx hb dJ1_charAt_3b067_1 rfl (lv_at hl 0 rfl) ?_
  refine va_tlen (v := 8) hx hb ((fxst_ hF).1 6 (by decide)).2.2.2 hS rfl dJ1_charAt_3b067_2 ?_
  refine krv_ (va_runS (As := [.int 0, .int 8]) (rest := []) ⟨hx, hb, hml, hown, hts⟩ (c_J0_checkIndex_df160 l hl0 D ad H.size 0 8 (by decide +kernel) (by decide +kernel)) (va_cwS 2 hts gJ1_charAt_3b067_J0_checkIndex_df160 rfl rfl rfl (by decide +kernel) ⟨Nat.le_of_ble_eq_true rfl, Nat.le_of_ble_eq_true rfl⟩) ⟨PR_.blind, PR_.pre hF hK (hP.sub [] rfl) hS hA [] rfl⟩ rfl rfl hl.1 rfl (lv_room (Nat.le_of_ble_eq_true rfl)) dJ1_charAt_3b067_3 ⟨(Nat.le_of_ble_eq_true rfl), (Nat.le_of_ble_eq_true rfl)⟩) hP hS hA (fun H locs hP hS => ?_)
  refine W.eq (g2 := F0 m 6 ls []) rfl ?_
  refine lv_aload_n hx hb dJ1_charAt_3b067_6 rfl (lv_at hl 0 rfl) ?_
  refine lv_iload_n hx hb dJ1_charAt_3b067_7 rfl (lv_at hl 1 rfl) ?_
  refine va_tb (v := .int 116) hx hb ((fxst_ hF).1 6 (by decide)).2.2.2 hS (vin_ (by decide +kernel)) rfl dJ1_charAt_3b067_8 ?_
  refine lv_sipush (v := 255) hx hb dJ1_charAt_3b067_9 (by decide +kernel) ?_
  refine lv_iand hx hb dJ1_charAt_3b067_12 ?_
  refine kt_ (v := 116) (by decide +kernel) ?_
  refine lv_i2c (v := 116) hx hb dJ1_charAt_3b067_13 (by decide +kernel) ?_
  refine W.widen (k := 0) (n := 0) (Nat.le_of_ble_eq_true rfl) (Nat.le_of_ble_eq_true rfl) ?_
  exact W.zret (v := 116) hx hb hr rfl (QR_.mk hS (by rw [hM])) hS.2.2 dJ1_charAt_3b067_14
def F_J0_charAt_5068e_0_ad26  : Int32 := 116
set_option maxHeartbeats 4000000 in
set_option maxRecDepth 100000 in
theorem c_J0_charAt_5068e_0_ad26 (l : Launch) (hl0 : l.stackTraces = false) (D : va_G) (ad : Nat → Nat) (sz : Nat)  : Met l yJ0_charAt_5068e wsJ0_charAt_5068e ({ frames := 3, cells := 0, slots := 0, locals := 70 }) (PR_ D ad [] [] sz [.ref (ad 26), .int 0]) (QR_ (.int (F_J0_charAt_5068e_0_ad26)) (va_A [] sz)) 0 0 (va_A [] sz) := by
  refine Met.ofW (cc := cJ0_charAt_5068e) (maxL := 2) (ret := (some .char)) (by decide) rfl ?_
  intro p e s m args below meth c s₁ B hml hv
  obtain ⟨rfl, hsz, hP, hK, hF⟩ := hv
  have hx := B.exec
  have hb := B.bytes
  have hr := B.returns
  have hts := atoms_spec (ws := wsJ0_charAt_5068e) B.pre
  have hown : s.vm.findClass RJ0 = some m.cls := findClass_of_methodNamed B.named
  have hlocks := B.notSynchronized
  subst hsz
  generalize hAe : va_A [] s.heap.size = A at hF ⊢
  have hA : ∀ q : Nat, s.heap.size ≤ q → A q := fun q h => by rw [← hAe]; exact Or.inr h
  obtain ⟨H, hHe⟩ : ∃ H : Heap, H = s.heap := ⟨_, rfl⟩
  have hS : va_S A s.heap H [] := by rw [hHe]; exact va_S.rf
  have hP : va_P D vwCl [] H := by rw [hHe]; exact hP
  rw [← hHe]
  have hl := lv_entry [.ref (ad 26), .int 0] (n := 2) (Nat.le_of_ble_eq_true rfl)
  rw [lg_entry_eq]
  generalize (lg_sl [.ref (ad 26), .int 0] ++ List.replicate (2 - (lg_sl [.ref (ad 26), .int 0]).length) Slot.unset).toArray = ls at hl ⊢
  have hl : lv_has ls 2 [(0, .ref (ad 26)), (1, .int 0)] := hl
  have hM : F_J0_charAt_5068e_0_ad26 = 116 := rfl
  refine lv_aload_n hx hb dJ0_charAt_5068e_0 rfl (lv_at hl 0 rfl) ?_
  refine kr_ (va_runV (As := []) (rest := []) ⟨hx, hb, hml, hown, hts⟩ (c_J0_isLatin1_aae02_ad26 l hl0 D ad H.size) (cwV 0 hts gJ0_charAt_5068e_J0_isLatin1_aae02 rfl rfl rfl (by decide +kernel) ⟨Nat.le_of_ble_eq_true rfl, Nat.le_of_ble_eq_true rfl⟩) ⟨PR_.blind, vk_recv (fxst_ hF) (i := 6) (by decide) hS, PR_.pre hF hK (hP.sub [] rfl) hS hA [] rfl⟩ rfl rfl hl.1 rfl (lv_room (Nat.le_of_ble_eq_true rfl)) dJ0_charAt_5068e_1 ⟨(Nat.le_of_ble_eq_true rfl), (Nat.le_of_ble_eq_true rfl)⟩) hP hS hA (fun H locs hP hS => ?_)
  refine W.eq (g2 := F0 m 4 ls [.int 1]) rfl ?_
  refine lv_if_eq (tgt := 16) hx hb dJ0_charAt_5068e_4 (by decide) (fun c9 => absurd c9 (by decide +kernel)) (fun _ => ?_)
  refine lv_aload_n hx hb dJ0_charAt_5068e_7 rfl (lv_at hl 0 rfl) ?_
  refine vk_getf (o := "java/lang/String") (n := "value") (d := "[B") (q := ad 26) (v := .ref (ad 46)) hx hb ((fxst_ hF).1 6 (by decide)).2.2.1 hS hown (hts (.fieldLink RJ0 9 "java/lang/String" "value" "[B") (List.mem_of_getElem? (i := 1) (by decide +kernel))) (fun _ h9 => h9) dJ0_charAt_5068e_8 ?_
  refine lv_iload_n hx hb dJ0_charAt_5068e_11 rfl (lv_at hl 1 rfl) ?_
  refine kr_ (va_runS (As := [.ref (ad 46), .int 0]) (rest := []) ⟨hx, hb, hml, hown, hts⟩ (c_J1_charAt_3b067_0_ad46 l hl0 D ad H.size) (va_cwS 2 hts gJ0_charAt_5068e_J1_charAt_3b067 rfl rfl rfl (by decide +kernel) ⟨Nat.le_of_ble_eq_true rfl, Nat.le_of_ble_eq_true rfl⟩) ⟨PR_.blind, PR_.pre hF hK (hP.sub [] rfl) hS hA [] rfl⟩ rfl rfl hl.1 rfl (lv_room (Nat.le_of_ble_eq_true rfl)) dJ0_charAt_5068e_12 ⟨(Nat.le_of_ble_eq_true rfl), (Nat.le_of_ble_eq_true rfl)⟩) hP hS hA (fun H locs hP hS => ?_)
  refine W.eq (g2 := F0 m 15 ls [.int 116]) rfl ?_
  refine W.widen (k := 0) (n := 0) (Nat.le_of_ble_eq_true rfl) (Nat.le_of_ble_eq_true rfl) ?_
  exact W.zret (v := 116) hx hb hr rfl (QR_.mk hS (by rw [hM])) hS.2.2 dJ0_charAt_5068e_15
def F_J1_charAt_3b067_1_ad46  : Int32 := 49
set_option maxHeartbeats 4000000 in
set_option maxRecDepth 100000 in
theorem c_J1_charAt_3b067_1_ad46 (l : Launch) (hl0 : l.stackTraces = false) (D : va_G) (ad : Nat → Nat) (sz : Nat)  : Met l yJ1_charAt_3b067 wsJ1_charAt_3b067 ({ frames := 2, cells := 0, slots := 0, locals := 47 }) (PR_ D ad [] [] sz [.ref (ad 46), .int 1]) (QR_ (.int (F_J1_charAt_3b067_1_ad46)) (va_A [] sz)) 0 0 (va_A [] sz) := by
  refine Met.ofW (cc := cJ1_charAt_3b067) (maxL := 2) (ret := (some .char)) (by decide) rfl ?_
  intro p e s m args below meth c s₁ B hml hv
  obtain ⟨rfl, hsz, hP, hK, hF⟩ := hv
  have hx := B.exec
  have hb := B.bytes
  have hr := B.returns
  have hts := atoms_spec (ws := wsJ1_charAt_3b067) B.pre
  have hown : s.vm.findClass RJ1 = some m.cls := findClass_of_methodNamed B.named
  have hlocks := B.notSynchronized
  subst hsz
  generalize hAe : va_A [] s.heap.size = A at hF ⊢
  have hA : ∀ q : Nat, s.heap.size ≤ q → A q := fun q h => by rw [← hAe]; exact Or.inr h
  obtain ⟨H, hHe⟩ : ∃ H : Heap, H = s.heap := ⟨_, rfl⟩
  have hS : va_S A s.heap H [] := by rw [hHe]; exact va_S.rf
  have hP : va_P D vwCl [] H := by rw [hHe]; exact hP
  rw [← hHe]
  have hl := lv_entry [.ref (ad 46), .int 1] (n := 2) (Nat.le_of_ble_eq_true rfl)
  rw [lg_entry_eq]
  generalize (lg_sl [.ref (ad 46), .int 1] ++ List.replicate (2 - (lg_sl [.ref (ad 46), .int 1]).length) Slot.unset).toArray = ls at hl ⊢
  have hl : lv_has ls 2 [(0, .ref (ad 46)), (1, .int 1)] := hl
  have hM : F_J1_charAt_3b067_1_ad46 = 49 := rfl
  refine lv_iload_n hx hb dJ1_charAt_3b067_0 rfl (lv_at hl 1 rfl) ?_
  refine lv_aload_n hx hb dJ1_charAt_3b067_1 rfl (lv_at hl 0 rfl) ?_
  refine va_tlen (v := 8) hx hb ((fxst_ hF).1 6 (by decide)).2.2.2 hS rfl dJ1_charAt_3b067_2 ?_
  refine krv_ (va_runS (As := [.int 1, .int 8]) (rest := []) ⟨hx, hb, hml, hown, hts⟩ (c_J0_checkIndex_df160 l hl0 D ad H.size 1 8 (by decide +kernel) (by decide +kernel)) (va_cwS 2 hts gJ1_charAt_3b067_J0_checkIndex_df160 rfl rfl rfl (by decide +kernel) ⟨Nat.le_of_ble_eq_true rfl, Nat.le_of_ble_eq_true rfl⟩) ⟨PR_.blind, PR_.pre hF hK (hP.sub [] rfl) hS hA [] rfl⟩ rfl rfl hl.1 rfl (lv_room (Nat.le_of_ble_eq_true rfl)) dJ1_charAt_3b067_3 ⟨(Nat.le_of_ble_eq_true rfl), (Nat.le_of_ble_eq_true rfl)⟩) hP hS hA (fun H locs hP hS => ?_)
  refine W.eq (g2 := F0 m 6 ls []) rfl ?_
  refine lv_aload_n hx hb dJ1_charAt_3b067_6 rfl (lv_at hl 0 rfl) ?_
  refine lv_iload_n hx hb dJ1_charAt_3b067_7 rfl (lv_at hl 1 rfl) ?_
  refine va_tb (v := .int 49) hx hb ((fxst_ hF).1 6 (by decide)).2.2.2 hS (vin_ (by decide +kernel)) rfl dJ1_charAt_3b067_8 ?_
  refine lv_sipush (v := 255) hx hb dJ1_charAt_3b067_9 (by decide +kernel) ?_
  refine lv_iand hx hb dJ1_charAt_3b067_12 ?_
  refine kt_ (v := 49) (by decide +kernel) ?_
  refine lv_i2c (v := 49) hx hb dJ1_charAt_3b067_13 (by decide +kernel) ?_
  refine W.widen (k := 0) (n := 0) (Nat.le_of_ble_eq_true rfl) (Nat.le_of_ble_eq_true rfl) ?_
  exact W.zret (v := 49) hx hb hr rfl (QR_.mk hS (by rw [hM])) hS.2.2 dJ1_charAt_3b067_14
def F_J0_charAt_5068e_1_ad26  : Int32 := 49
set_option maxHeartbeats 4000000 in
set_option maxRecDepth 100000 in
theorem c_J0_charAt_5068e_1_ad26 (l : Launch) (hl0 : l.stackTraces = false) (D : va_G) (ad : Nat → Nat) (sz : Nat)  : Met l yJ0_charAt_5068e wsJ0_charAt_5068e ({ frames := 3, cells := 0, slots := 0, locals := 70 }) (PR_ D ad [] [] sz [.ref (ad 26), .int 1]) (QR_ (.int (F_J0_charAt_5068e_1_ad26)) (va_A [] sz)) 0 0 (va_A [] sz) := by
  refine Met.ofW (cc := cJ0_charAt_5068e) (maxL := 2) (ret := (some .char)) (by decide) rfl ?_
  intro p e s m args below meth c s₁ B hml hv
  obtain ⟨rfl, hsz, hP, hK, hF⟩ := hv
  have hx := B.exec
  have hb := B.bytes
  have hr := B.returns
  have hts := atoms_spec (ws := wsJ0_charAt_5068e) B.pre
  have hown : s.vm.findClass RJ0 = some m.cls := findClass_of_methodNamed B.named
  have hlocks := B.notSynchronized
  subst hsz
  generalize hAe : va_A [] s.heap.size = A at hF ⊢
  have hA : ∀ q : Nat, s.heap.size ≤ q → A q := fun q h => by rw [← hAe]; exact Or.inr h
  obtain ⟨H, hHe⟩ : ∃ H : Heap, H = s.heap := ⟨_, rfl⟩
  have hS : va_S A s.heap H [] := by rw [hHe]; exact va_S.rf
  have hP : va_P D vwCl [] H := by rw [hHe]; exact hP
  rw [← hHe]
  have hl := lv_entry [.ref (ad 26), .int 1] (n := 2) (Nat.le_of_ble_eq_true rfl)
  rw [lg_entry_eq]
  generalize (lg_sl [.ref (ad 26), .int 1] ++ List.replicate (2 - (lg_sl [.ref (ad 26), .int 1]).length) Slot.unset).toArray = ls at hl ⊢
  have hl : lv_has ls 2 [(0, .ref (ad 26)), (1, .int 1)] := hl
  have hM : F_J0_charAt_5068e_1_ad26 = 49 := rfl
  refine lv_aload_n hx hb dJ0_charAt_5068e_0 rfl (lv_at hl 0 rfl) ?_
  refine kr_ (va_runV (As := []) (rest := []) ⟨hx, hb, hml, hown, hts⟩ (c_J0_isLatin1_aae02_ad26 l hl0 D ad H.size) (cwV 0 hts gJ0_charAt_5068e_J0_isLatin1_aae02 rfl rfl rfl (by decide +kernel) ⟨Nat.le_of_ble_eq_true rfl, Nat.le_of_ble_eq_true rfl⟩) ⟨PR_.blind, vk_recv (fxst_ hF) (i := 6) (by decide) hS, PR_.pre hF hK (hP.sub [] rfl) hS hA [] rfl⟩ rfl rfl hl.1 rfl (lv_room (Nat.le_of_ble_eq_true rfl)) dJ0_charAt_5068e_1 ⟨(Nat.le_of_ble_eq_true rfl), (Nat.le_of_ble_eq_true rfl)⟩) hP hS hA (fun H locs hP hS => ?_)
  refine W.eq (g2 := F0 m 4 ls [.int 1]) rfl ?_
  refine lv_if_eq (tgt := 16) hx hb dJ0_charAt_5068e_4 (by decide) (fun c9 => absurd c9 (by decide +kernel)) (fun _ => ?_)
  refine lv_aload_n hx hb dJ0_charAt_5068e_7 rfl (lv_at hl 0 rfl) ?_
  refine vk_getf (o := "java/lang/String") (n := "value") (d := "[B") (q := ad 26) (v := .ref (ad 46)) hx hb ((fxst_ hF).1 6 (by decide)).2.2.1 hS hown (hts (.fieldLink RJ0 9 "java/lang/String" "value" "[B") (List.mem_of_getElem? (i := 1) (by decide +kernel))) (fun _ h9 => h9) dJ0_charAt_5068e_8 ?_
  refine lv_iload_n hx hb dJ0_charAt_5068e_11 rfl (lv_at hl 1 rfl) ?_
  refine kr_ (va_runS (As := [.ref (ad 46), .int 1]) (rest := []) ⟨hx, hb, hml, hown, hts⟩ (c_J1_charAt_3b067_1_ad46 l hl0 D ad H.size) (va_cwS 2 hts gJ0_charAt_5068e_J1_charAt_3b067 rfl rfl rfl (by decide +kernel) ⟨Nat.le_of_ble_eq_true rfl, Nat.le_of_ble_eq_true rfl⟩) ⟨PR_.blind, PR_.pre hF hK (hP.sub [] rfl) hS hA [] rfl⟩ rfl rfl hl.1 rfl (lv_room (Nat.le_of_ble_eq_true rfl)) dJ0_charAt_5068e_12 ⟨(Nat.le_of_ble_eq_true rfl), (Nat.le_of_ble_eq_true rfl)⟩) hP hS hA (fun H locs hP hS => ?_)
  refine W.eq (g2 := F0 m 15 ls [.int 49]) rfl ?_
  refine W.widen (k := 0) (n := 0) (Nat.le_of_ble_eq_true rfl) (Nat.le_of_ble_eq_true rfl) ?_
  exact W.zret (v := 49) hx hb hr rfl (QR_.mk hS (by rw [hM])) hS.2.2 dJ0_charAt_5068e_15
def F_J1_charAt_3b067_2_ad46  : Int32 := 59
set_option maxHeartbeats 4000000 in
set_option maxRecDepth 100000 in
theorem c_J1_charAt_3b067_2_ad46 (l : Launch) (hl0 : l.stackTraces = false) (D : va_G) (ad : Nat → Nat) (sz : Nat)  : Met l yJ1_charAt_3b067 wsJ1_charAt_3b067 ({ frames := 2, cells := 0, slots := 0, locals := 47 }) (PR_ D ad [] [] sz [.ref (ad 46), .int 2]) (QR_ (.int (F_J1_charAt_3b067_2_ad46)) (va_A [] sz)) 0 0 (va_A [] sz) := by
  refine Met.ofW (cc := cJ1_charAt_3b067) (maxL := 2) (ret := (some .char)) (by decide) rfl ?_
  intro p e s m args below meth c s₁ B hml hv
  obtain ⟨rfl, hsz, hP, hK, hF⟩ := hv
  have hx := B.exec
  have hb := B.bytes
  have hr := B.returns
  have hts := atoms_spec (ws := wsJ1_charAt_3b067) B.pre
  have hown : s.vm.findClass RJ1 = some m.cls := findClass_of_methodNamed B.named
  have hlocks := B.notSynchronized
  subst hsz
  generalize hAe : va_A [] s.heap.size = A at hF ⊢
  have hA : ∀ q : Nat, s.heap.size ≤ q → A q := fun q h => by rw [← hAe]; exact Or.inr h
  obtain ⟨H, hHe⟩ : ∃ H : Heap, H = s.heap := ⟨_, rfl⟩
  have hS : va_S A s.heap H [] := by rw [hHe]; exact va_S.rf
  have hP : va_P D vwCl [] H := by rw [hHe]; exact hP
  rw [← hHe]
  have hl := lv_entry [.ref (ad 46), .int 2] (n := 2) (Nat.le_of_ble_eq_true rfl)
  rw [lg_entry_eq]
  generalize (lg_sl [.ref (ad 46), .int 2] ++ List.replicate (2 - (lg_sl [.ref (ad 46), .int 2]).length) Slot.unset).toArray = ls at hl ⊢
  have hl : lv_has ls 2 [(0, .ref (ad 46)), (1, .int 2)] := hl
  have hM : F_J1_charAt_3b067_2_ad46 = 59 := rfl
  refine lv_iload_n hx hb dJ1_charAt_3b067_0 rfl (lv_at hl 1 rfl) ?_
  refine lv_aload_n hx hb dJ1_charAt_3b067_1 rfl (lv_at hl 0 rfl) ?_
  refine va_tlen (v := 8) hx hb ((fxst_ hF).1 6 (by decide)).2.2.2 hS rfl dJ1_charAt_3b067_2 ?_
  refine krv_ (va_runS (As := [.int 2, .int 8]) (rest := []) ⟨hx, hb, hml, hown, hts⟩ (c_J0_checkIndex_df160 l hl0 D ad H.size 2 8 (by decide +kernel) (by decide +kernel)) (va_cwS 2 hts gJ1_charAt_3b067_J0_checkIndex_df160 rfl rfl rfl (by decide +kernel) ⟨Nat.le_of_ble_eq_true rfl, Nat.le_of_ble_eq_true rfl⟩) ⟨PR_.blind, PR_.pre hF hK (hP.sub [] rfl) hS hA [] rfl⟩ rfl rfl hl.1 rfl (lv_room (Nat.le_of_ble_eq_true rfl)) dJ1_charAt_3b067_3 ⟨(Nat.le_of_ble_eq_true rfl), (Nat.le_of_ble_eq_true rfl)⟩) hP hS hA (fun H locs hP hS => ?_)
  refine W.eq (g2 := F0 m 6 ls []) rfl ?_
  refine lv_aload_n hx hb dJ1_charAt_3b067_6 rfl (lv_at hl 0 rfl) ?_
  refine lv_iload_n hx hb dJ1_charAt_3b067_7 rfl (lv_at hl 1 rfl) ?_
  refine va_tb (v := .int 59) hx hb ((fxst_ hF).1 6 (by decide)).2.2.2 hS (vin_ (by decide +kernel)) rfl dJ1_charAt_3b067_8 ?_
  refine lv_sipush (v := 255) hx hb dJ1_charAt_3b067_9 (by decide +kernel) ?_
  refine lv_iand hx hb dJ1_charAt_3b067_12 ?_
  refine kt_ (v := 59) (by decide +kernel) ?_
  refine lv_i2c (v := 59) hx hb dJ1_charAt_3b067_13 (by decide +kernel) ?_
  refine W.widen (k := 0) (n := 0) (Nat.le_of_ble_eq_true rfl) (Nat.le_of_ble_eq_true rfl) ?_
  exact W.zret (v := 59) hx hb hr rfl (QR_.mk hS (by rw [hM])) hS.2.2 dJ1_charAt_3b067_14
def F_J0_charAt_5068e_2_ad26  : Int32 := 59
set_option maxHeartbeats 4000000 in
set_option maxRecDepth 100000 in
theorem c_J0_charAt_5068e_2_ad26 (l : Launch) (hl0 : l.stackTraces = false) (D : va_G) (ad : Nat → Nat) (sz : Nat)  : Met l yJ0_charAt_5068e wsJ0_charAt_5068e ({ frames := 3, cells := 0, slots := 0, locals := 70 }) (PR_ D ad [] [] sz [.ref (ad 26), .int 2]) (QR_ (.int (F_J0_charAt_5068e_2_ad26)) (va_A [] sz)) 0 0 (va_A [] sz) := by
  refine Met.ofW (cc := cJ0_charAt_5068e) (maxL := 2) (ret := (some .char)) (by decide) rfl ?_
  intro p e s m args below meth c s₁ B hml hv
  obtain ⟨rfl, hsz, hP, hK, hF⟩ := hv
  have hx := B.exec
  have hb := B.bytes
  have hr := B.returns
  have hts := atoms_spec (ws := wsJ0_charAt_5068e) B.pre
  have hown : s.vm.findClass RJ0 = some m.cls := findClass_of_methodNamed B.named
  have hlocks := B.notSynchronized
  subst hsz
  generalize hAe : va_A [] s.heap.size = A at hF ⊢
  have hA : ∀ q : Nat, s.heap.size ≤ q → A q := fun q h => by rw [← hAe]; exact Or.inr h
  obtain ⟨H, hHe⟩ : ∃ H : Heap, H = s.heap := ⟨_, rfl⟩
  have hS : va_S A s.heap H [] := by rw [hHe]; exact va_S.rf
  have hP : va_P D vwCl [] H := by rw [hHe]; exact hP
  rw [← hHe]
  have hl := lv_entry [.ref (ad 26), .int 2] (n := 2) (Nat.le_of_ble_eq_true rfl)
  rw [lg_entry_eq]
  generalize (lg_sl [.ref (ad 26), .int 2] ++ List.replicate (2 - (lg_sl [.ref (ad 26), .int 2]).length) Slot.unset).toArray = ls at hl ⊢
  have hl : lv_has ls 2 [(0, .ref (ad 26)), (1, .int 2)] := hl
  have hM : F_J0_charAt_5068e_2_ad26 = 59 := rfl
  refine lv_aload_n hx hb dJ0_charAt_5068e_0 rfl (lv_at hl 0 rfl) ?_
  refine kr_ (va_runV (As := []) (rest := []) ⟨hx, hb, hml, hown, hts⟩ (c_J0_isLatin1_aae02_ad26 l hl0 D ad H.size) (cwV 0 hts gJ0_charAt_5068e_J0_isLatin1_aae02 rfl rfl rfl (by decide +kernel) ⟨Nat.le_of_ble_eq_true rfl, Nat.le_of_ble_eq_true rfl⟩) ⟨PR_.blind, vk_recv (fxst_ hF) (i := 6) (by decide) hS, PR_.pre hF hK (hP.sub [] rfl) hS hA [] rfl⟩ rfl rfl hl.1 rfl (lv_room (Nat.le_of_ble_eq_true rfl)) dJ0_charAt_5068e_1 ⟨(Nat.le_of_ble_eq_true rfl), (Nat.le_of_ble_eq_true rfl)⟩) hP hS hA (fun H locs hP hS => ?_)
  refine W.eq (g2 := F0 m 4 ls [.int 1]) rfl ?_
  refine lv_if_eq (tgt := 16) hx hb dJ0_charAt_5068e_4 (by decide) (fun c9 => absurd c9 (by decide +kernel)) (fun _ => ?_)
  refine lv_aload_n hx hb dJ0_charAt_5068e_7 rfl (lv_at hl 0 rfl) ?_
  refine vk_getf (o := "java/lang/String") (n := "value") (d := "[B") (q := ad 26) (v := .ref (ad 46)) hx hb ((fxst_ hF).1 6 (by decide)).2.2.1 hS hown (hts (.fieldLink RJ0 9 "java/lang/String" "value" "[B") (List.mem_of_getElem? (i := 1) (by decide +kernel))) (fun _ h9 => h9) dJ0_charAt_5068e_8 ?_
  refine lv_iload_n hx hb dJ0_charAt_5068e_11 rfl (lv_at hl 1 rfl) ?_
  refine kr_ (va_runS (As := [.ref (ad 46), .int 2]) (rest := []) ⟨hx, hb, hml, hown, hts⟩ (c_J1_charAt_3b067_2_ad46 l hl0 D ad H.size) (va_cwS 2 hts gJ0_charAt_5068e_J1_charAt_3b067 rfl rfl rfl (by decide +kernel) ⟨Nat.le_of_ble_eq_true rfl, Nat.le_of_ble_eq_true rfl⟩) ⟨PR_.blind, PR_.pre hF hK (hP.sub [] rfl) hS hA [] rfl⟩ rfl rfl hl.1 rfl (lv_room (Nat.le_of_ble_eq_true rfl)) dJ0_charAt_5068e_12 ⟨(Nat.le_of_ble_eq_true rfl), (Nat.le_of_ble_eq_true rfl)⟩) hP hS hA (fun H locs hP hS => ?_)
  refine W.eq (g2 := F0 m 15 ls [.int 59]) rfl ?_
  refine W.widen (k := 0) (n := 0) (Nat.le_of_ble_eq_true rfl) (Nat.le_of_ble_eq_true rfl) ?_
  exact W.zret (v := 59) hx hb hr rfl (QR_.mk hS (by rw [hM])) hS.2.2 dJ0_charAt_5068e_15
def F_J1_charAt_3b067_3_ad46  : Int32 := 116
set_option maxHeartbeats 4000000 in
set_option maxRecDepth 100000 in
theorem c_J1_charAt_3b067_3_ad46 (l : Launch) (hl0 : l.stackTraces = false) (D : va_G) (ad : Nat → Nat) (sz : Nat)  : Met l yJ1_charAt_3b067 wsJ1_charAt_3b067 ({ frames := 2, cells := 0, slots := 0, locals := 47 }) (PR_ D ad [] [] sz [.ref (ad 46), .int 3]) (QR_ (.int (F_J1_charAt_3b067_3_ad46)) (va_A [] sz)) 0 0 (va_A [] sz) := by
  refine Met.ofW (cc := cJ1_charAt_3b067) (maxL := 2) (ret := (some .char)) (by decide) rfl ?_
  intro p e s m args below meth c s₁ B hml hv
  obtain ⟨rfl, hsz, hP, hK, hF⟩ := hv
  have hx := B.exec
  have hb := B.bytes
  have hr := B.returns
  have hts := atoms_spec (ws := wsJ1_charAt_3b067) B.pre
  have hown : s.vm.findClass RJ1 = some m.cls := findClass_of_methodNamed B.named
  have hlocks := B.notSynchronized
  subst hsz
  generalize hAe : va_A [] s.heap.size = A at hF ⊢
  have hA : ∀ q : Nat, s.heap.size ≤ q → A q := fun q h => by rw [← hAe]; exact Or.inr h
  obtain ⟨H, hHe⟩ : ∃ H : Heap, H = s.heap := ⟨_, rfl⟩
  have hS : va_S A s.heap H [] := by rw [hHe]; exact va_S.rf
  have hP : va_P D vwCl [] H := by rw [hHe]; exact hP
  rw [← hHe]
  have hl := lv_entry [.ref (ad 46), .int 3] (n := 2) (Nat.le_of_ble_eq_true rfl)
  rw [lg_entry_eq]
  generalize (lg_sl [.ref (ad 46), .int 3] ++ List.replicate (2 - (lg_sl [.ref (ad 46), .int 3]).length) Slot.unset).toArray = ls at hl ⊢
  have hl : lv_has ls 2 [(0, .ref (ad 46)), (1, .int 3)] := hl
  have hM : F_J1_charAt_3b067_3_ad46 = 116 := rfl
  refine lv_iload_n hx hb dJ1_charAt_3b067_0 rfl (lv_at hl 1 rfl) ?_
  refine lv_aload_n hx hb dJ1_charAt_3b067_1 rfl (lv_at hl 0 rfl) ?_
  refine va_tlen (v := 8) hx hb ((fxst_ hF).1 6 (by decide)).2.2.2 hS rfl dJ1_charAt_3b067_2 ?_
  refine krv_ (va_runS (As := [.int 3, .int 8]) (rest := []) ⟨hx, hb, hml, hown, hts⟩ (c_J0_checkIndex_df160 l hl0 D ad H.size 3 8 (by decide +kernel) (by decide +kernel)) (va_cwS 2 hts gJ1_charAt_3b067_J0_checkIndex_df160 rfl rfl rfl (by decide +kernel) ⟨Nat.le_of_ble_eq_true rfl, Nat.le_of_ble_eq_true rfl⟩) ⟨PR_.blind, PR_.pre hF hK (hP.sub [] rfl) hS hA [] rfl⟩ rfl rfl hl.1 rfl (lv_room (Nat.le_of_ble_eq_true rfl)) dJ1_charAt_3b067_3 ⟨(Nat.le_of_ble_eq_true rfl), (Nat.le_of_ble_eq_true rfl)⟩) hP hS hA (fun H locs hP hS => ?_)
  refine W.eq (g2 := F0 m 6 ls []) rfl ?_
  refine lv_aload_n hx hb dJ1_charAt_3b067_6 rfl (lv_at hl 0 rfl) ?_
  refine lv_iload_n hx hb dJ1_charAt_3b067_7 rfl (lv_at hl 1 rfl) ?_
  refine va_tb (v := .int 116) hx hb ((fxst_ hF).1 6 (by decide)).2.2.2 hS (vin_ (by decide +kernel)) rfl dJ1_charAt_3b067_8 ?_
  refine lv_sipush (v := 255) hx hb dJ1_charAt_3b067_9 (by decide +kernel) ?_
  refine lv_iand hx hb dJ1_charAt_3b067_12 ?_
  refine kt_ (v := 116) (by decide +kernel) ?_
  refine lv_i2c (v := 116) hx hb dJ1_charAt_3b067_13 (by decide +kernel) ?_
  refine W.widen (k := 0) (n := 0) (Nat.le_of_ble_eq_true rfl) (Nat.le_of_ble_eq_true rfl) ?_
  exact W.zret (v := 116) hx hb hr rfl (QR_.mk hS (by rw [hM])) hS.2.2 dJ1_charAt_3b067_14
def F_J0_charAt_5068e_3_ad26  : Int32 := 116
set_option maxHeartbeats 4000000 in
set_option maxRecDepth 100000 in
theorem c_J0_charAt_5068e_3_ad26 (l : Launch) (hl0 : l.stackTraces = false) (D : va_G) (ad : Nat → Nat) (sz : Nat)  : Met l yJ0_charAt_5068e wsJ0_charAt_5068e ({ frames := 3, cells := 0, slots := 0, locals := 70 }) (PR_ D ad [] [] sz [.ref (ad 26), .int 3]) (QR_ (.int (F_J0_charAt_5068e_3_ad26)) (va_A [] sz)) 0 0 (va_A [] sz) := by
  refine Met.ofW (cc := cJ0_charAt_5068e) (maxL := 2) (ret := (some .char)) (by decide) rfl ?_
  intro p e s m args below meth c s₁ B hml hv
  obtain ⟨rfl, hsz, hP, hK, hF⟩ := hv
  have hx := B.exec
  have hb := B.bytes
  have hr := B.returns
  have hts := atoms_spec (ws := wsJ0_charAt_5068e) B.pre
  have hown : s.vm.findClass RJ0 = some m.cls := findClass_of_methodNamed B.named
  have hlocks := B.notSynchronized
  subst hsz
  generalize hAe : va_A [] s.heap.size = A at hF ⊢
  have hA : ∀ q : Nat, s.heap.size ≤ q → A q := fun q h => by rw [← hAe]; exact Or.inr h
  obtain ⟨H, hHe⟩ : ∃ H : Heap, H = s.heap := ⟨_, rfl⟩
  have hS : va_S A s.heap H [] := by rw [hHe]; exact va_S.rf
  have hP : va_P D vwCl [] H := by rw [hHe]; exact hP
  rw [← hHe]
  have hl := lv_entry [.ref (ad 26), .int 3] (n := 2) (Nat.le_of_ble_eq_true rfl)
  rw [lg_entry_eq]
  generalize (lg_sl [.ref (ad 26), .int 3] ++ List.replicate (2 - (lg_sl [.ref (ad 26), .int 3]).length) Slot.unset).toArray = ls at hl ⊢
  have hl : lv_has ls 2 [(0, .ref (ad 26)), (1, .int 3)] := hl
  have hM : F_J0_charAt_5068e_3_ad26 = 116 := rfl
  refine lv_aload_n hx hb dJ0_charAt_5068e_0 rfl (lv_at hl 0 rfl) ?_
  refine kr_ (va_runV (As := []) (rest := []) ⟨hx, hb, hml, hown, hts⟩ (c_J0_isLatin1_aae02_ad26 l hl0 D ad H.size) (cwV 0 hts gJ0_charAt_5068e_J0_isLatin1_aae02 rfl rfl rfl (by decide +kernel) ⟨Nat.le_of_ble_eq_true rfl, Nat.le_of_ble_eq_true rfl⟩) ⟨PR_.blind, vk_recv (fxst_ hF) (i := 6) (by decide) hS, PR_.pre hF hK (hP.sub [] rfl) hS hA [] rfl⟩ rfl rfl hl.1 rfl (lv_room (Nat.le_of_ble_eq_true rfl)) dJ0_charAt_5068e_1 ⟨(Nat.le_of_ble_eq_true rfl), (Nat.le_of_ble_eq_true rfl)⟩) hP hS hA (fun H locs hP hS => ?_)
  refine W.eq (g2 := F0 m 4 ls [.int 1]) rfl ?_
  refine lv_if_eq (tgt := 16) hx hb dJ0_charAt_5068e_4 (by decide) (fun c9 => absurd c9 (by decide +kernel)) (fun _ => ?_)
  refine lv_aload_n hx hb dJ0_charAt_5068e_7 rfl (lv_at hl 0 rfl) ?_
  refine vk_getf (o := "java/lang/String") (n := "value") (d := "[B") (q := ad 26) (v := .ref (ad 46)) hx hb ((fxst_ hF).1 6 (by decide)).2.2.1 hS hown (hts (.fieldLink RJ0 9 "java/lang/String" "value" "[B") (List.mem_of_getElem? (i := 1) (by decide +kernel))) (fun _ h9 => h9) dJ0_charAt_5068e_8 ?_
  refine lv_iload_n hx hb dJ0_charAt_5068e_11 rfl (lv_at hl 1 rfl) ?_
  refine kr_ (va_runS (As := [.ref (ad 46), .int 3]) (rest := []) ⟨hx, hb, hml, hown, hts⟩ (c_J1_charAt_3b067_3_ad46 l hl0 D ad H.size) (va_cwS 2 hts gJ0_charAt_5068e_J1_charAt_3b067 rfl rfl rfl (by decide +kernel) ⟨Nat.le_of_ble_eq_true rfl, Nat.le_of_ble_eq_true rfl⟩) ⟨PR_.blind, PR_.pre hF hK (hP.sub [] rfl) hS hA [] rfl⟩ rfl rfl hl.1 rfl (lv_room (Nat.le_of_ble_eq_true rfl)) dJ0_charAt_5068e_12 ⟨(Nat.le_of_ble_eq_true rfl), (Nat.le_of_ble_eq_true rfl)⟩) hP hS hA (fun H locs hP hS => ?_)
  refine W.eq (g2 := F0 m 15 ls [.int 116]) rfl ?_
  refine W.widen (k := 0) (n := 0) (Nat.le_of_ble_eq_true rfl) (Nat.le_of_ble_eq_true rfl) ?_
  exact W.zret (v := 116) hx hb hr rfl (QR_.mk hS (by rw [hM])) hS.2.2 dJ0_charAt_5068e_15
def F_J1_charAt_3b067_4_ad46  : Int32 := 50
set_option maxHeartbeats 4000000 in
set_option maxRecDepth 100000 in
theorem c_J1_charAt_3b067_4_ad46 (l : Launch) (hl0 : l.stackTraces = false) (D : va_G) (ad : Nat → Nat) (sz : Nat)  : Met l yJ1_charAt_3b067 wsJ1_charAt_3b067 ({ frames := 2, cells := 0, slots := 0, locals := 47 }) (PR_ D ad [] [] sz [.ref (ad 46), .int 4]) (QR_ (.int (F_J1_charAt_3b067_4_ad46)) (va_A [] sz)) 0 0 (va_A [] sz) := by
  refine Met.ofW (cc := cJ1_charAt_3b067) (maxL := 2) (ret := (some .char)) (by decide) rfl ?_
  intro p e s m args below meth c s₁ B hml hv
  obtain ⟨rfl, hsz, hP, hK, hF⟩ := hv
  have hx := B.exec
  have hb := B.bytes
  have hr := B.returns
  have hts := atoms_spec (ws := wsJ1_charAt_3b067) B.pre
  have hown : s.vm.findClass RJ1 = some m.cls := findClass_of_methodNamed B.named
  have hlocks := B.notSynchronized
  subst hsz
  generalize hAe : va_A [] s.heap.size = A at hF ⊢
  have hA : ∀ q : Nat, s.heap.size ≤ q → A q := fun q h => by rw [← hAe]; exact Or.inr h
  obtain ⟨H, hHe⟩ : ∃ H : Heap, H = s.heap := ⟨_, rfl⟩
  have hS : va_S A s.heap H [] := by rw [hHe]; exact va_S.rf
  have hP : va_P D vwCl [] H := by rw [hHe]; exact hP
  rw [← hHe]
  have hl := lv_entry [.ref (ad 46), .int 4] (n := 2) (Nat.le_of_ble_eq_true rfl)
  rw [lg_entry_eq]
  generalize (lg_sl [.ref (ad 46), .int 4] ++ List.replicate (2 - (lg_sl [.ref (ad 46), .int 4]).length) Slot.unset).toArray = ls at hl ⊢
  have hl : lv_has ls 2 [(0, .ref (ad 46)), (1, .int 4)] := hl
  have hM : F_J1_charAt_3b067_4_ad46 = 50 := rfl
  refine lv_iload_n hx hb dJ1_charAt_3b067_0 rfl (lv_at hl 1 rfl) ?_
  refine lv_aload_n hx hb dJ1_charAt_3b067_1 rfl (lv_at hl 0 rfl) ?_
  refine va_tlen (v := 8) hx hb ((fxst_ hF).1 6 (by decide)).2.2.2 hS rfl dJ1_charAt_3b067_2 ?_
  refine krv_ (va_runS (As := [.int 4, .int 8]) (rest := []) ⟨hx, hb, hml, hown, hts⟩ (c_J0_checkIndex_df160 l hl0 D ad H.size 4 8 (by decide +kernel) (by decide +kernel)) (va_cwS 2 hts gJ1_charAt_3b067_J0_checkIndex_df160 rfl rfl rfl (by decide +kernel) ⟨Nat.le_of_ble_eq_true rfl, Nat.le_of_ble_eq_true rfl⟩) ⟨PR_.blind, PR_.pre hF hK (hP.sub [] rfl) hS hA [] rfl⟩ rfl rfl hl.1 rfl (lv_room (Nat.le_of_ble_eq_true rfl)) dJ1_charAt_3b067_3 ⟨(Nat.le_of_ble_eq_true rfl), (Nat.le_of_ble_eq_true rfl)⟩) hP hS hA (fun H locs hP hS => ?_)
  refine W.eq (g2 := F0 m 6 ls []) rfl ?_
  refine lv_aload_n hx hb dJ1_charAt_3b067_6 rfl (lv_at hl 0 rfl) ?_
  refine lv_iload_n hx hb dJ1_charAt_3b067_7 rfl (lv_at hl 1 rfl) ?_
  refine va_tb (v := .int 50) hx hb ((fxst_ hF).1 6 (by decide)).2.2.2 hS (vin_ (by decide +kernel)) rfl dJ1_charAt_3b067_8 ?_
  refine lv_sipush (v := 255) hx hb dJ1_charAt_3b067_9 (by decide +kernel) ?_
  refine lv_iand hx hb dJ1_charAt_3b067_12 ?_
  refine kt_ (v := 50) (by decide +kernel) ?_
  refine lv_i2c (v := 50) hx hb dJ1_charAt_3b067_13 (by decide +kernel) ?_
  refine W.widen (k := 0) (n := 0) (Nat.le_of_ble_eq_true rfl) (Nat.le_of_ble_eq_true rfl) ?_
  exact W.zret (v := 50) hx hb hr rfl (QR_.mk hS (by rw [hM])) hS.2.2 dJ1_charAt_3b067_14
def F_J0_charAt_5068e_4_ad26  : Int32 := 50
set_option maxHeartbeats 4000000 in
set_option maxRecDepth 100000 in
theorem c_J0_charAt_5068e_4_ad26 (l : Launch) (hl0 : l.stackTraces = false) (D : va_G) (ad : Nat → Nat) (sz : Nat)  : Met l yJ0_charAt_5068e wsJ0_charAt_5068e ({ frames := 3, cells := 0, slots := 0, locals := 70 }) (PR_ D ad [] [] sz [.ref (ad 26), .int 4]) (QR_ (.int (F_J0_charAt_5068e_4_ad26)) (va_A [] sz)) 0 0 (va_A [] sz) := by
  refine Met.ofW (cc := cJ0_charAt_5068e) (maxL := 2) (ret := (some .char)) (by decide) rfl ?_
  intro p e s m args below meth c s₁ B hml hv
  obtain ⟨rfl, hsz, hP, hK, hF⟩ := hv
  have hx := B.exec
  have hb := B.bytes
  have hr := B.returns
  have hts := atoms_spec (ws := wsJ0_charAt_5068e) B.pre
  have hown : s.vm.findClass RJ0 = some m.cls := findClass_of_methodNamed B.named
  have hlocks := B.notSynchronized
  subst hsz
  generalize hAe : va_A [] s.heap.size = A at hF ⊢
  have hA : ∀ q : Nat, s.heap.size ≤ q → A q := fun q h => by rw [← hAe]; exact Or.inr h
  obtain ⟨H, hHe⟩ : ∃ H : Heap, H = s.heap := ⟨_, rfl⟩
  have hS : va_S A s.heap H [] := by rw [hHe]; exact va_S.rf
  have hP : va_P D vwCl [] H := by rw [hHe]; exact hP
  rw [← hHe]
  have hl := lv_entry [.ref (ad 26), .int 4] (n := 2) (Nat.le_of_ble_eq_true rfl)
  rw [lg_entry_eq]
  generalize (lg_sl [.ref (ad 26), .int 4] ++ List.replicate (2 - (lg_sl [.ref (ad 26), .int 4]).length) Slot.unset).toArray = ls at hl ⊢
  have hl : lv_has ls 2 [(0, .ref (ad 26)), (1, .int 4)] := hl
  have hM : F_J0_charAt_5068e_4_ad26 = 50 := rfl
  refine lv_aload_n hx hb dJ0_charAt_5068e_0 rfl (lv_at hl 0 rfl) ?_
  refine kr_ (va_runV (As := []) (rest := []) ⟨hx, hb, hml, hown, hts⟩ (c_J0_isLatin1_aae02_ad26 l hl0 D ad H.size) (cwV 0 hts gJ0_charAt_5068e_J0_isLatin1_aae02 rfl rfl rfl (by decide +kernel) ⟨Nat.le_of_ble_eq_true rfl, Nat.le_of_ble_eq_true rfl⟩) ⟨PR_.blind, vk_recv (fxst_ hF) (i := 6) (by decide) hS, PR_.pre hF hK (hP.sub [] rfl) hS hA [] rfl⟩ rfl rfl hl.1 rfl (lv_room (Nat.le_of_ble_eq_true rfl)) dJ0_charAt_5068e_1 ⟨(Nat.le_of_ble_eq_true rfl), (Nat.le_of_ble_eq_true rfl)⟩) hP hS hA (fun H locs hP hS => ?_)
  refine W.eq (g2 := F0 m 4 ls [.int 1]) rfl ?_
  refine lv_if_eq (tgt := 16) hx hb dJ0_charAt_5068e_4 (by decide) (fun c9 => absurd c9 (by decide +kernel)) (fun _ => ?_)
  refine lv_aload_n hx hb dJ0_charAt_5068e_7 rfl (lv_at hl 0 rfl) ?_
  refine vk_getf (o := "java/lang/String") (n := "value") (d := "[B") (q := ad 26) (v := .ref (ad 46)) hx hb ((fxst_ hF).1 6 (by decide)).2.2.1 hS hown (hts (.fieldLink RJ0 9 "java/lang/String" "value" "[B") (List.mem_of_getElem? (i := 1) (by decide +kernel))) (fun _ h9 => h9) dJ0_charAt_5068e_8 ?_
  refine lv_iload_n hx hb dJ0_charAt_5068e_11 rfl (lv_at hl 1 rfl) ?_
  refine kr_ (va_runS (As := [.ref (ad 46), .int 4]) (rest := []) ⟨hx, hb, hml, hown, hts⟩ (c_J1_charAt_3b067_4_ad46 l hl0 D ad H.size) (va_cwS 2 hts gJ0_charAt_5068e_J1_charAt_3b067 rfl rfl rfl (by decide +kernel) ⟨Nat.le_of_ble_eq_true rfl, Nat.le_of_ble_eq_true rfl⟩) ⟨PR_.blind, PR_.pre hF hK (hP.sub [] rfl) hS hA [] rfl⟩ rfl rfl hl.1 rfl (lv_room (Nat.le_of_ble_eq_true rfl)) dJ0_charAt_5068e_12 ⟨(Nat.le_of_ble_eq_true rfl), (Nat.le_of_ble_eq_true rfl)⟩) hP hS hA (fun H locs hP hS => ?_)
  refine W.eq (g2 := F0 m 15 ls [.int 50]) rfl ?_
  refine W.widen (k := 0) (n := 0) (Nat.le_of_ble_eq_true rfl) (Nat.le_of_ble_eq_true rfl) ?_
  exact W.zret (v := 50) hx hb hr rfl (QR_.mk hS (by rw [hM])) hS.2.2 dJ0_charAt_5068e_15
def F_J1_charAt_3b067_5_ad46  : Int32 := 59
set_option maxHeartbeats 4000000 in
set_option maxRecDepth 100000 in
theorem c_J1_charAt_3b067_5_ad46 (l : Launch) (hl0 : l.stackTraces = false) (D : va_G) (ad : Nat → Nat) (sz : Nat)  : Met l yJ1_charAt_3b067 wsJ1_charAt_3b067 ({ frames := 2, cells := 0, slots := 0, locals := 47 }) (PR_ D ad [] [] sz [.ref (ad 46), .int 5]) (QR_ (.int (F_J1_charAt_3b067_5_ad46)) (va_A [] sz)) 0 0 (va_A [] sz) := by
  refine Met.ofW (cc := cJ1_charAt_3b067) (maxL := 2) (ret := (some .char)) (by decide) rfl ?_
  intro p e s m args below meth c s₁ B hml hv
  obtain ⟨rfl, hsz, hP, hK, hF⟩ := hv
  have hx := B.exec
  have hb := B.bytes
  have hr := B.returns
  have hts := atoms_spec (ws := wsJ1_charAt_3b067) B.pre
  have hown : s.vm.findClass RJ1 = some m.cls := findClass_of_methodNamed B.named
  have hlocks := B.notSynchronized
  subst hsz
  generalize hAe : va_A [] s.heap.size = A at hF ⊢
  have hA : ∀ q : Nat, s.heap.size ≤ q → A q := fun q h => by rw [← hAe]; exact Or.inr h
  obtain ⟨H, hHe⟩ : ∃ H : Heap, H = s.heap := ⟨_, rfl⟩
  have hS : va_S A s.heap H [] := by rw [hHe]; exact va_S.rf
  have hP : va_P D vwCl [] H := by rw [hHe]; exact hP
  rw [← hHe]
  have hl := lv_entry [.ref (ad 46), .int 5] (n := 2) (Nat.le_of_ble_eq_true rfl)
  rw [lg_entry_eq]
  generalize (lg_sl [.ref (ad 46), .int 5] ++ List.replicate (2 - (lg_sl [.ref (ad 46), .int 5]).length) Slot.unset).toArray = ls at hl ⊢
  have hl : lv_has ls 2 [(0, .ref (ad 46)), (1, .int 5)] := hl
  have hM : F_J1_charAt_3b067_5_ad46 = 59 := rfl
  refine lv_iload_n hx hb dJ1_charAt_3b067_0 rfl (lv_at hl 1 rfl) ?_
  refine lv_aload_n hx hb dJ1_charAt_3b067_1 rfl (lv_at hl 0 rfl) ?_
  refine va_tlen (v := 8) hx hb ((fxst_ hF).1 6 (by decide)).2.2.2 hS rfl dJ1_charAt_3b067_2 ?_
  refine krv_ (va_runS (As := [.int 5, .int 8]) (rest := []) ⟨hx, hb, hml, hown, hts⟩ (c_J0_checkIndex_df160 l hl0 D ad H.size 5 8 (by decide +kernel) (by decide +kernel)) (va_cwS 2 hts gJ1_charAt_3b067_J0_checkIndex_df160 rfl rfl rfl (by decide +kernel) ⟨Nat.le_of_ble_eq_true rfl, Nat.le_of_ble_eq_true rfl⟩) ⟨PR_.blind, PR_.pre hF hK (hP.sub [] rfl) hS hA [] rfl⟩ rfl rfl hl.1 rfl (lv_room (Nat.le_of_ble_eq_true rfl)) dJ1_charAt_3b067_3 ⟨(Nat.le_of_ble_eq_true rfl), (Nat.le_of_ble_eq_true rfl)⟩) hP hS hA (fun H locs hP hS => ?_)
  refine W.eq (g2 := F0 m 6 ls []) rfl ?_
  refine lv_aload_n hx hb dJ1_charAt_3b067_6 rfl (lv_at hl 0 rfl) ?_
  refine lv_iload_n hx hb dJ1_charAt_3b067_7 rfl (lv_at hl 1 rfl) ?_
  refine va_tb (v := .int 59) hx hb ((fxst_ hF).1 6 (by decide)).2.2.2 hS (vin_ (by decide +kernel)) rfl dJ1_charAt_3b067_8 ?_
  refine lv_sipush (v := 255) hx hb dJ1_charAt_3b067_9 (by decide +kernel) ?_
  refine lv_iand hx hb dJ1_charAt_3b067_12 ?_
  refine kt_ (v := 59) (by decide +kernel) ?_
  refine lv_i2c (v := 59) hx hb dJ1_charAt_3b067_13 (by decide +kernel) ?_
  refine W.widen (k := 0) (n := 0) (Nat.le_of_ble_eq_true rfl) (Nat.le_of_ble_eq_true rfl) ?_
  exact W.zret (v := 59) hx hb hr rfl (QR_.mk hS (by rw [hM])) hS.2.2 dJ1_charAt_3b067_14
def F_J0_charAt_5068e_5_ad26  : Int32 := 59
set_option maxHeartbeats 4000000 in
set_option maxRecDepth 100000 in
theorem c_J0_charAt_5068e_5_ad26 (l : Launch) (hl0 : l.stackTraces = false) (D : va_G) (ad : Nat → Nat) (sz : Nat)  : Met l yJ0_charAt_5068e wsJ0_charAt_5068e ({ frames := 3, cells := 0, slots := 0, locals := 70 }) (PR_ D ad [] [] sz [.ref (ad 26), .int 5]) (QR_ (.int (F_J0_charAt_5068e_5_ad26)) (va_A [] sz)) 0 0 (va_A [] sz) := by
  refine Met.ofW (cc := cJ0_charAt_5068e) (maxL := 2) (ret := (some .char)) (by decide) rfl ?_
  intro p e s m args below meth c s₁ B hml hv
  obtain ⟨rfl, hsz, hP, hK, hF⟩ := hv
  have hx := B.exec
  have hb := B.bytes
  have hr := B.returns
  have hts := atoms_spec (ws := wsJ0_charAt_5068e) B.pre
  have hown : s.vm.findClass RJ0 = some m.cls := findClass_of_methodNamed B.named
  have hlocks := B.notSynchronized
  subst hsz
  generalize hAe : va_A [] s.heap.size = A at hF ⊢
  have hA : ∀ q : Nat, s.heap.size ≤ q → A q := fun q h => by rw [← hAe]; exact Or.inr h
  obtain ⟨H, hHe⟩ : ∃ H : Heap, H = s.heap := ⟨_, rfl⟩
  have hS : va_S A s.heap H [] := by rw [hHe]; exact va_S.rf
  have hP : va_P D vwCl [] H := by rw [hHe]; exact hP
  rw [← hHe]
  have hl := lv_entry [.ref (ad 26), .int 5] (n := 2) (Nat.le_of_ble_eq_true rfl)
  rw [lg_entry_eq]
  generalize (lg_sl [.ref (ad 26), .int 5] ++ List.replicate (2 - (lg_sl [.ref (ad 26), .int 5]).length) Slot.unset).toArray = ls at hl ⊢
  have hl : lv_has ls 2 [(0, .ref (ad 26)), (1, .int 5)] := hl
  have hM : F_J0_charAt_5068e_5_ad26 = 59 := rfl
  refine lv_aload_n hx hb dJ0_charAt_5068e_0 rfl (lv_at hl 0 rfl) ?_
  refine kr_ (va_runV (As := []) (rest := []) ⟨hx, hb, hml, hown, hts⟩ (c_J0_isLatin1_aae02_ad26 l hl0 D ad H.size) (cwV 0 hts gJ0_charAt_5068e_J0_isLatin1_aae02 rfl rfl rfl (by decide +kernel) ⟨Nat.le_of_ble_eq_true rfl, Nat.le_of_ble_eq_true rfl⟩) ⟨PR_.blind, vk_recv (fxst_ hF) (i := 6) (by decide) hS, PR_.pre hF hK (hP.sub [] rfl) hS hA [] rfl⟩ rfl rfl hl.1 rfl (lv_room (Nat.le_of_ble_eq_true rfl)) dJ0_charAt_5068e_1 ⟨(Nat.le_of_ble_eq_true rfl), (Nat.le_of_ble_eq_true rfl)⟩) hP hS hA (fun H locs hP hS => ?_)
  refine W.eq (g2 := F0 m 4 ls [.int 1]) rfl ?_
  refine lv_if_eq (tgt := 16) hx hb dJ0_charAt_5068e_4 (by decide) (fun c9 => absurd c9 (by decide +kernel)) (fun _ => ?_)
  refine lv_aload_n hx hb dJ0_charAt_5068e_7 rfl (lv_at hl 0 rfl) ?_
  refine vk_getf (o := "java/lang/String") (n := "value") (d := "[B") (q := ad 26) (v := .ref (ad 46)) hx hb ((fxst_ hF).1 6 (by decide)).2.2.1 hS hown (hts (.fieldLink RJ0 9 "java/lang/String" "value" "[B") (List.mem_of_getElem? (i := 1) (by decide +kernel))) (fun _ h9 => h9) dJ0_charAt_5068e_8 ?_
  refine lv_iload_n hx hb dJ0_charAt_5068e_11 rfl (lv_at hl 1 rfl) ?_
  refine kr_ (va_runS (As := [.ref (ad 46), .int 5]) (rest := []) ⟨hx, hb, hml, hown, hts⟩ (c_J1_charAt_3b067_5_ad46 l hl0 D ad H.size) (va_cwS 2 hts gJ0_charAt_5068e_J1_charAt_3b067 rfl rfl rfl (by decide +kernel) ⟨Nat.le_of_ble_eq_true rfl, Nat.le_of_ble_eq_true rfl⟩) ⟨PR_.blind, PR_.pre hF hK (hP.sub [] rfl) hS hA [] rfl⟩ rfl rfl hl.1 rfl (lv_room (Nat.le_of_ble_eq_true rfl)) dJ0_charAt_5068e_12 ⟨(Nat.le_of_ble_eq_true rfl), (Nat.le_of_ble_eq_true rfl)⟩) hP hS hA (fun H locs hP hS => ?_)
  refine W.eq (g2 := F0 m 15 ls [.int 59]) rfl ?_
  refine W.widen (k := 0) (n := 0) (Nat.le_of_ble_eq_true rfl) (Nat.le_of_ble_eq_true rfl) ?_
  exact W.zret (v := 59) hx hb hr rfl (QR_.mk hS (by rw [hM])) hS.2.2 dJ0_charAt_5068e_15
def F_J1_charAt_3b067_6_ad46  : Int32 := 116
set_option maxHeartbeats 4000000 in
set_option maxRecDepth 100000 in
theorem c_J1_charAt_3b067_6_ad46 (l : Launch) (hl0 : l.stackTraces = false) (D : va_G) (ad : Nat → Nat) (sz : Nat)  : Met l yJ1_charAt_3b067 wsJ1_charAt_3b067 ({ frames := 2, cells := 0, slots := 0, locals := 47 }) (PR_ D ad [] [] sz [.ref (ad 46), .int 6]) (QR_ (.int (F_J1_charAt_3b067_6_ad46)) (va_A [] sz)) 0 0 (va_A [] sz) := by
  refine Met.ofW (cc := cJ1_charAt_3b067) (maxL := 2) (ret := (some .char)) (by decide) rfl ?_
  intro p e s m args below meth c s₁ B hml hv
  obtain ⟨rfl, hsz, hP, hK, hF⟩ := hv
  have hx := B.exec
  have hb := B.bytes
  have hr := B.returns
  have hts := atoms_spec (ws := wsJ1_charAt_3b067) B.pre
  have hown : s.vm.findClass RJ1 = some m.cls := findClass_of_methodNamed B.named
  have hlocks := B.notSynchronized
  subst hsz
  generalize hAe : va_A [] s.heap.size = A at hF ⊢
  have hA : ∀ q : Nat, s.heap.size ≤ q → A q := fun q h => by rw [← hAe]; exact Or.inr h
  obtain ⟨H, hHe⟩ : ∃ H : Heap, H = s.heap := ⟨_, rfl⟩
  have hS : va_S A s.heap H [] := by rw [hHe]; exact va_S.rf
  have hP : va_P D vwCl [] H := by rw [hHe]; exact hP
  rw [← hHe]
  have hl := lv_entry [.ref (ad 46), .int 6] (n := 2) (Nat.le_of_ble_eq_true rfl)
  rw [lg_entry_eq]
  generalize (lg_sl [.ref (ad 46), .int 6] ++ List.replicate (2 - (lg_sl [.ref (ad 46), .int 6]).length) Slot.unset).toArray = ls at hl ⊢
  have hl : lv_has ls 2 [(0, .ref (ad 46)), (1, .int 6)] := hl
  have hM : F_J1_charAt_3b067_6_ad46 = 116 := rfl
  refine lv_iload_n hx hb dJ1_charAt_3b067_0 rfl (lv_at hl 1 rfl) ?_
  refine lv_aload_n hx hb dJ1_charAt_3b067_1 rfl (lv_at hl 0 rfl) ?_
  refine va_tlen (v := 8) hx hb ((fxst_ hF).1 6 (by decide)).2.2.2 hS rfl dJ1_charAt_3b067_2 ?_
  refine krv_ (va_runS (As := [.int 6, .int 8]) (rest := []) ⟨hx, hb, hml, hown, hts⟩ (c_J0_checkIndex_df160 l hl0 D ad H.size 6 8 (by decide +kernel) (by decide +kernel)) (va_cwS 2 hts gJ1_charAt_3b067_J0_checkIndex_df160 rfl rfl rfl (by decide +kernel) ⟨Nat.le_of_ble_eq_true rfl, Nat.le_of_ble_eq_true rfl⟩) ⟨PR_.blind, PR_.pre hF hK (hP.sub [] rfl) hS hA [] rfl⟩ rfl rfl hl.1 rfl (lv_room (Nat.le_of_ble_eq_true rfl)) dJ1_charAt_3b067_3 ⟨(Nat.le_of_ble_eq_true rfl), (Nat.le_of_ble_eq_true rfl)⟩) hP hS hA (fun H locs hP hS => ?_)
  refine W.eq (g2 := F0 m 6 ls []) rfl ?_
  refine lv_aload_n hx hb dJ1_charAt_3b067_6 rfl (lv_at hl 0 rfl) ?_
  refine lv_iload_n hx hb dJ1_charAt_3b067_7 rfl (lv_at hl 1 rfl) ?_
  refine va_tb (v := .int 116) hx hb ((fxst_ hF).1 6 (by decide)).2.2.2 hS (vin_ (by decide +kernel)) rfl dJ1_charAt_3b067_8 ?_
  refine lv_sipush (v := 255) hx hb dJ1_charAt_3b067_9 (by decide +kernel) ?_
  refine lv_iand hx hb dJ1_charAt_3b067_12 ?_
  refine kt_ (v := 116) (by decide +kernel) ?_
  refine lv_i2c (v := 116) hx hb dJ1_charAt_3b067_13 (by decide +kernel) ?_
  refine W.widen (k := 0) (n := 0) (Nat.le_of_ble_eq_true rfl) (Nat.le_of_ble_eq_true rfl) ?_
  exact W.zret (v := 116) hx hb hr rfl (QR_.mk hS (by rw [hM])) hS.2.2 dJ1_charAt_3b067_14
def F_J0_charAt_5068e_6_ad26  : Int32 := 116
set_option maxHeartbeats 4000000 in
set_option maxRecDepth 100000 in
theorem c_J0_charAt_5068e_6_ad26 (l : Launch) (hl0 : l.stackTraces = false) (D : va_G) (ad : Nat → Nat) (sz : Nat)  : Met l yJ0_charAt_5068e wsJ0_charAt_5068e ({ frames := 3, cells := 0, slots := 0, locals := 70 }) (PR_ D ad [] [] sz [.ref (ad 26), .int 6]) (QR_ (.int (F_J0_charAt_5068e_6_ad26)) (va_A [] sz)) 0 0 (va_A [] sz) := by
  refine Met.ofW (cc := cJ0_charAt_5068e) (maxL := 2) (ret := (some .char)) (by decide) rfl ?_
  intro p e s m args below meth c s₁ B hml hv
  obtain ⟨rfl, hsz, hP, hK, hF⟩ := hv
  have hx := B.exec
  have hb := B.bytes
  have hr := B.returns
  have hts := atoms_spec (ws := wsJ0_charAt_5068e) B.pre
  have hown : s.vm.findClass RJ0 = some m.cls := findClass_of_methodNamed B.named
  have hlocks := B.notSynchronized
  subst hsz
  generalize hAe : va_A [] s.heap.size = A at hF ⊢
  have hA : ∀ q : Nat, s.heap.size ≤ q → A q := fun q h => by rw [← hAe]; exact Or.inr h
  obtain ⟨H, hHe⟩ : ∃ H : Heap, H = s.heap := ⟨_, rfl⟩
  have hS : va_S A s.heap H [] := by rw [hHe]; exact va_S.rf
  have hP : va_P D vwCl [] H := by rw [hHe]; exact hP
  rw [← hHe]
  have hl := lv_entry [.ref (ad 26), .int 6] (n := 2) (Nat.le_of_ble_eq_true rfl)
  rw [lg_entry_eq]
  generalize (lg_sl [.ref (ad 26), .int 6] ++ List.replicate (2 - (lg_sl [.ref (ad 26), .int 6]).length) Slot.unset).toArray = ls at hl ⊢
  have hl : lv_has ls 2 [(0, .ref (ad 26)), (1, .int 6)] := hl
  have hM : F_J0_charAt_5068e_6_ad26 = 116 := rfl
  refine lv_aload_n hx hb dJ0_charAt_5068e_0 rfl (lv_at hl 0 rfl) ?_
  refine kr_ (va_runV (As := []) (rest := []) ⟨hx, hb, hml, hown, hts⟩ (c_J0_isLatin1_aae02_ad26 l hl0 D ad H.size) (cwV 0 hts gJ0_charAt_5068e_J0_isLatin1_aae02 rfl rfl rfl (by decide +kernel) ⟨Nat.le_of_ble_eq_true rfl, Nat.le_of_ble_eq_true rfl⟩) ⟨PR_.blind, vk_recv (fxst_ hF) (i := 6) (by decide) hS, PR_.pre hF hK (hP.sub [] rfl) hS hA [] rfl⟩ rfl rfl hl.1 rfl (lv_room (Nat.le_of_ble_eq_true rfl)) dJ0_charAt_5068e_1 ⟨(Nat.le_of_ble_eq_true rfl), (Nat.le_of_ble_eq_true rfl)⟩) hP hS hA (fun H locs hP hS => ?_)
  refine W.eq (g2 := F0 m 4 ls [.int 1]) rfl ?_
  refine lv_if_eq (tgt := 16) hx hb dJ0_charAt_5068e_4 (by decide) (fun c9 => absurd c9 (by decide +kernel)) (fun _ => ?_)
  refine lv_aload_n hx hb dJ0_charAt_5068e_7 rfl (lv_at hl 0 rfl) ?_
  refine vk_getf (o := "java/lang/String") (n := "value") (d := "[B") (q := ad 26) (v := .ref (ad 46)) hx hb ((fxst_ hF).1 6 (by decide)).2.2.1 hS hown (hts (.fieldLink RJ0 9 "java/lang/String" "value" "[B") (List.mem_of_getElem? (i := 1) (by decide +kernel))) (fun _ h9 => h9) dJ0_charAt_5068e_8 ?_
  refine lv_iload_n hx hb dJ0_charAt_5068e_11 rfl (lv_at hl 1 rfl) ?_
  refine kr_ (va_runS (As := [.ref (ad 46), .int 6]) (rest := []) ⟨hx, hb, hml, hown, hts⟩ (c_J1_charAt_3b067_6_ad46 l hl0 D ad H.size) (va_cwS 2 hts gJ0_charAt_5068e_J1_charAt_3b067 rfl rfl rfl (by decide +kernel) ⟨Nat.le_of_ble_eq_true rfl, Nat.le_of_ble_eq_true rfl⟩) ⟨PR_.blind, PR_.pre hF hK (hP.sub [] rfl) hS hA [] rfl⟩ rfl rfl hl.1 rfl (lv_room (Nat.le_of_ble_eq_true rfl)) dJ0_charAt_5068e_12 ⟨(Nat.le_of_ble_eq_true rfl), (Nat.le_of_ble_eq_true rfl)⟩) hP hS hA (fun H locs hP hS => ?_)
  refine W.eq (g2 := F0 m 15 ls [.int 116]) rfl ?_
  refine W.widen (k := 0) (n := 0) (Nat.le_of_ble_eq_true rfl) (Nat.le_of_ble_eq_true rfl) ?_
  exact W.zret (v := 116) hx hb hr rfl (QR_.mk hS (by rw [hM])) hS.2.2 dJ0_charAt_5068e_15
def F_J1_charAt_3b067_7_ad46  : Int32 := 48
set_option maxHeartbeats 4000000 in
set_option maxRecDepth 100000 in
theorem c_J1_charAt_3b067_7_ad46 (l : Launch) (hl0 : l.stackTraces = false) (D : va_G) (ad : Nat → Nat) (sz : Nat)  : Met l yJ1_charAt_3b067 wsJ1_charAt_3b067 ({ frames := 2, cells := 0, slots := 0, locals := 47 }) (PR_ D ad [] [] sz [.ref (ad 46), .int 7]) (QR_ (.int (F_J1_charAt_3b067_7_ad46)) (va_A [] sz)) 0 0 (va_A [] sz) := by
  refine Met.ofW (cc := cJ1_charAt_3b067) (maxL := 2) (ret := (some .char)) (by decide) rfl ?_
  intro p e s m args below meth c s₁ B hml hv
  obtain ⟨rfl, hsz, hP, hK, hF⟩ := hv
  have hx := B.exec
  have hb := B.bytes
  have hr := B.returns
  have hts := atoms_spec (ws := wsJ1_charAt_3b067) B.pre
  have hown : s.vm.findClass RJ1 = some m.cls := findClass_of_methodNamed B.named
  have hlocks := B.notSynchronized
  subst hsz
  generalize hAe : va_A [] s.heap.size = A at hF ⊢
  have hA : ∀ q : Nat, s.heap.size ≤ q → A q := fun q h => by rw [← hAe]; exact Or.inr h
  obtain ⟨H, hHe⟩ : ∃ H : Heap, H = s.heap := ⟨_, rfl⟩
  have hS : va_S A s.heap H [] := by rw [hHe]; exact va_S.rf
  have hP : va_P D vwCl [] H := by rw [hHe]; exact hP
  rw [← hHe]
  have hl := lv_entry [.ref (ad 46), .int 7] (n := 2) (Nat.le_of_ble_eq_true rfl)
  rw [lg_entry_eq]
  generalize (lg_sl [.ref (ad 46), .int 7] ++ List.replicate (2 - (lg_sl [.ref (ad 46), .int 7]).length) Slot.unset).toArray = ls at hl ⊢
  have hl : lv_has ls 2 [(0, .ref (ad 46)), (1, .int 7)] := hl
  have hM : F_J1_charAt_3b067_7_ad46 = 48 := rfl
  refine lv_iload_n hx hb dJ1_charAt_3b067_0 rfl (lv_at hl 1 rfl) ?_
  refine lv_aload_n hx hb dJ1_charAt_3b067_1 rfl (lv_at hl 0 rfl) ?_
  refine va_tlen (v := 8) hx hb ((fxst_ hF).1 6 (by decide)).2.2.2 hS rfl dJ1_charAt_3b067_2 ?_
  refine krv_ (va_runS (As := [.int 7, .int 8]) (rest := []) ⟨hx, hb, hml, hown, hts⟩ (c_J0_checkIndex_df160 l hl0 D ad H.size 7 8 (by decide +kernel) (by decide +kernel)) (va_cwS 2 hts gJ1_charAt_3b067_J0_checkIndex_df160 rfl rfl rfl (by decide +kernel) ⟨Nat.le_of_ble_eq_true rfl, Nat.le_of_ble_eq_true rfl⟩) ⟨PR_.blind, PR_.pre hF hK (hP.sub [] rfl) hS hA [] rfl⟩ rfl rfl hl.1 rfl (lv_room (Nat.le_of_ble_eq_true rfl)) dJ1_charAt_3b067_3 ⟨(Nat.le_of_ble_eq_true rfl), (Nat.le_of_ble_eq_true rfl)⟩) hP hS hA (fun H locs hP hS => ?_)
  refine W.eq (g2 := F0 m 6 ls []) rfl ?_
  refine lv_aload_n hx hb dJ1_charAt_3b067_6 rfl (lv_at hl 0 rfl) ?_
  refine lv_iload_n hx hb dJ1_charAt_3b067_7 rfl (lv_at hl 1 rfl) ?_
  refine va_tb (v := .int 48) hx hb ((fxst_ hF).1 6 (by decide)).2.2.2 hS (vin_ (by decide +kernel)) rfl dJ1_charAt_3b067_8 ?_
  refine lv_sipush (v := 255) hx hb dJ1_charAt_3b067_9 (by decide +kernel) ?_
  refine lv_iand hx hb dJ1_charAt_3b067_12 ?_
  refine kt_ (v := 48) (by decide +kernel) ?_
  refine lv_i2c (v := 48) hx hb dJ1_charAt_3b067_13 (by decide +kernel) ?_
  refine W.widen (k := 0) (n := 0) (Nat.le_of_ble_eq_true rfl) (Nat.le_of_ble_eq_true rfl) ?_
  exact W.zret (v := 48) hx hb hr rfl (QR_.mk hS (by rw [hM])) hS.2.2 dJ1_charAt_3b067_14
def F_J0_charAt_5068e_7_ad26  : Int32 := 48
set_option maxHeartbeats 4000000 in
set_option maxRecDepth 100000 in
theorem c_J0_charAt_5068e_7_ad26 (l : Launch) (hl0 : l.stackTraces = false) (D : va_G) (ad : Nat → Nat) (sz : Nat)  : Met l yJ0_charAt_5068e wsJ0_charAt_5068e ({ frames := 3, cells := 0, slots := 0, locals := 70 }) (PR_ D ad [] [] sz [.ref (ad 26), .int 7]) (QR_ (.int (F_J0_charAt_5068e_7_ad26)) (va_A [] sz)) 0 0 (va_A [] sz) := by
  refine Met.ofW (cc := cJ0_charAt_5068e) (maxL := 2) (ret := (some .char)) (by decide) rfl ?_
  intro p e s m args below meth c s₁ B hml hv
  obtain ⟨rfl, hsz, hP, hK, hF⟩ := hv
  have hx := B.exec
  have hb := B.bytes
  have hr := B.returns
  have hts := atoms_spec (ws := wsJ0_charAt_5068e) B.pre
  have hown : s.vm.findClass RJ0 = some m.cls := findClass_of_methodNamed B.named
  have hlocks := B.notSynchronized
  subst hsz
  generalize hAe : va_A [] s.heap.size = A at hF ⊢
  have hA : ∀ q : Nat, s.heap.size ≤ q → A q := fun q h => by rw [← hAe]; exact Or.inr h
  obtain ⟨H, hHe⟩ : ∃ H : Heap, H = s.heap := ⟨_, rfl⟩
  have hS : va_S A s.heap H [] := by rw [hHe]; exact va_S.rf
  have hP : va_P D vwCl [] H := by rw [hHe]; exact hP
  rw [← hHe]
  have hl := lv_entry [.ref (ad 26), .int 7] (n := 2) (Nat.le_of_ble_eq_true rfl)
  rw [lg_entry_eq]
  generalize (lg_sl [.ref (ad 26), .int 7] ++ List.replicate (2 - (lg_sl [.ref (ad 26), .int 7]).length) Slot.unset).toArray = ls at hl ⊢
  have hl : lv_has ls 2 [(0, .ref (ad 26)), (1, .int 7)] := hl
  have hM : F_J0_charAt_5068e_7_ad26 = 48 := rfl
  refine lv_aload_n hx hb dJ0_charAt_5068e_0 rfl (lv_at hl 0 rfl) ?_
  refine kr_ (va_runV (As := []) (rest := []) ⟨hx, hb, hml, hown, hts⟩ (c_J0_isLatin1_aae02_ad26 l hl0 D ad H.size) (cwV 0 hts gJ0_charAt_5068e_J0_isLatin1_aae02 rfl rfl rfl (by decide +kernel) ⟨Nat.le_of_ble_eq_true rfl, Nat.le_of_ble_eq_true rfl⟩) ⟨PR_.blind, vk_recv (fxst_ hF) (i := 6) (by decide) hS, PR_.pre hF hK (hP.sub [] rfl) hS hA [] rfl⟩ rfl rfl hl.1 rfl (lv_room (Nat.le_of_ble_eq_true rfl)) dJ0_charAt_5068e_1 ⟨(Nat.le_of_ble_eq_true rfl), (Nat.le_of_ble_eq_true rfl)⟩) hP hS hA (fun H locs hP hS => ?_)
  refine W.eq (g2 := F0 m 4 ls [.int 1]) rfl ?_
  refine lv_if_eq (tgt := 16) hx hb dJ0_charAt_5068e_4 (by decide) (fun c9 => absurd c9 (by decide +kernel)) (fun _ => ?_)
  refine lv_aload_n hx hb dJ0_charAt_5068e_7 rfl (lv_at hl 0 rfl) ?_
  refine vk_getf (o := "java/lang/String") (n := "value") (d := "[B") (q := ad 26) (v := .ref (ad 46)) hx hb ((fxst_ hF).1 6 (by decide)).2.2.1 hS hown (hts (.fieldLink RJ0 9 "java/lang/String" "value" "[B") (List.mem_of_getElem? (i := 1) (by decide +kernel))) (fun _ h9 => h9) dJ0_charAt_5068e_8 ?_
  refine lv_iload_n hx hb dJ0_charAt_5068e_11 rfl (lv_at hl 1 rfl) ?_
  refine kr_ (va_runS (As := [.ref (ad 46), .int 7]) (rest := []) ⟨hx, hb, hml, hown, hts⟩ (c_J1_charAt_3b067_7_ad46 l hl0 D ad H.size) (va_cwS 2 hts gJ0_charAt_5068e_J1_charAt_3b067 rfl rfl rfl (by decide +kernel) ⟨Nat.le_of_ble_eq_true rfl, Nat.le_of_ble_eq_true rfl⟩) ⟨PR_.blind, PR_.pre hF hK (hP.sub [] rfl) hS hA [] rfl⟩ rfl rfl hl.1 rfl (lv_room (Nat.le_of_ble_eq_true rfl)) dJ0_charAt_5068e_12 ⟨(Nat.le_of_ble_eq_true rfl), (Nat.le_of_ble_eq_true rfl)⟩) hP hS hA (fun H locs hP hS => ?_)
  refine W.eq (g2 := F0 m 15 ls [.int 48]) rfl ?_
  refine W.widen (k := 0) (n := 0) (Nat.le_of_ble_eq_true rfl) (Nat.le_of_ble_eq_true rfl) ?_
  exact W.zret (v := 48) hx hb hr rfl (QR_.mk hS (by rw [hM])) hS.2.2 dJ0_charAt_5068e_15
def K_L_reads_36_1  : (Int32 × MS × Nat × Nat) → (Int32 × MS × Nat × Nat)
  | (y36_0, y36_1, y36_2, y36_3) => (adc y36_2 y36_3 (y36_0, y36_1, 0, 0))
def K_L_reads_16_1  : (Int32 × MS × Nat × Nat) → (Int32 × MS × Nat × Nat)
  | (y16bbbbbbb_0, y16bbbbbbb_1, y16bbbbbbb_2, y16bbbbbbb_3) => (adc y16bbbbbbb_2 y16bbbbbbb_3 (if y16bbbbbbb_0 = 8 then (K_L_reads_36_1 (F_L_commands y16bbbbbbb_1)) else ((-9999), y16bbbbbbb_1, 0, 0)))
def K_L_reads_16_2  : (Int32 × MS × Nat × Nat) → (Int32 × MS × Nat × Nat)
  | (y16bbbbbb_0, y16bbbbbb_1, y16bbbbbb_2, y16bbbbbb_3) => (adc y16bbbbbb_2 y16bbbbbb_3 (if y16bbbbbb_0 = 7 then (K_L_reads_16_1 (F_L_append y16bbbbbb_1 48)) else ((-9999), y16bbbbbb_1, 0, 0)))
def K_L_reads_16_3  : (Int32 × MS × Nat × Nat) → (Int32 × MS × Nat × Nat)
  | (y16bbbbb_0, y16bbbbb_1, y16bbbbb_2, y16bbbbb_3) => (adc y16bbbbb_2 y16bbbbb_3 (if y16bbbbb_0 = 6 then (K_L_reads_16_2 (F_L_append y16bbbbb_1 116)) else ((-9999), y16bbbbb_1, 0, 0)))
def K_L_reads_16_4  : (Int32 × MS × Nat × Nat) → (Int32 × MS × Nat × Nat)
  | (y16bbbb_0, y16bbbb_1, y16bbbb_2, y16bbbb_3) => (adc y16bbbb_2 y16bbbb_3 (if y16bbbb_0 = 5 then (K_L_reads_16_3 (F_L_append y16bbbb_1 59)) else ((-9999), y16bbbb_1, 0, 0)))
def K_L_reads_16_5  : (Int32 × MS × Nat × Nat) → (Int32 × MS × Nat × Nat)
  | (y16bbb_0, y16bbb_1, y16bbb_2, y16bbb_3) => (adc y16bbb_2 y16bbb_3 (if y16bbb_0 = 4 then (K_L_reads_16_4 (F_L_append y16bbb_1 50)) else ((-9999), y16bbb_1, 0, 0)))
def K_L_reads_16_6  : (Int32 × MS × Nat × Nat) → (Int32 × MS × Nat × Nat)
  | (y16bb_0, y16bb_1, y16bb_2, y16bb_3) => (adc y16bb_2 y16bb_3 (if y16bb_0 = 3 then (K_L_reads_16_5 (F_L_append y16bb_1 116)) else ((-9999), y16bb_1, 0, 0)))
def K_L_reads_16_7  : (Int32 × MS × Nat × Nat) → (Int32 × MS × Nat × Nat)
  | (y16b_0, y16b_1, y16b_2, y16b_3) => (adc y16b_2 y16b_3 (if y16b_0 = 2 then (K_L_reads_16_6 (F_L_append y16b_1 59)) else ((-9999), y16b_1, 0, 0)))
def K_L_reads_16_8  : (Int32 × MS × Nat × Nat) → (Int32 × MS × Nat × Nat)
  | (y16_0, y16_1, y16_2, y16_3) => (adc y16_2 y16_3 (if y16_0 = 1 then (K_L_reads_16_7 (F_L_append y16_1 49)) else ((-9999), y16_1, 0, 0)))
def F_L_reads_6 (M : MS) : Int32 × MS × Nat × Nat := (K_L_reads_16_8 (F_L_append M 116))
set_option maxHeartbeats 4000000 in
set_option maxRecDepth 100000 in
theorem bl_L_reads_6 (l : Launch) (hl0 : l.stackTraces = false) (D : va_G) (ad : Nat → Nat) (sz : Nat) (b : BX) (hBL : BL_ b) (a0 : Nat) (hb9 : b.1 79 = a0) (M : MS) (hM9 : b.2.2.2 = M) (Bd : Nat) (hXI : XI Bd M) (hBd : Bd + 36600 ≤ 900000) : Met l yL_reads wsL_reads ({ frames := 14, cells := (F_L_reads_6 M).2.2.1, slots := (F_L_reads_6 M).2.2.2, locals := 378 }) (PC_ D ad (BWW ad b) (BWT b) sz [.ref a0, .ref (ad 26)]) (QB_ D (fun _ : BX => some (.int (F_L_reads_6 M).1)) (fun b' => b'.2.2.2 = (F_L_reads_6 M).2.1 ∧ b'.1 79 = a0 ∧ BL_ b' ∧ XI (Bd + 36600) (F_L_reads_6 M).2.1) (BWW ad) BWT (va_A (BWW ad b) sz)) (F_L_reads_6 M).2.2.1 (F_L_reads_6 M).2.2.2 (va_A (BWW ad b) sz) := by
  refine Met.ofW (cc := cL_reads) (maxL := 3) (ret := (some .int)) (by decide) rfl ?_
  intro p e s m args below meth c s₁ B hml hv
  obtain ⟨rfl, hsz, hP, hK, hD0, hF⟩ := hv
  have hx := B.exec
  have hb := B.bytes
  have hr := B.returns
  have hts := atoms_spec (ws := wsL_reads) B.pre
  have hown : s.vm.findClass RL = some m.cls := findClass_of_methodNamed B.named
  have hlocks := B.notSynchronized
  subst hsz
  have hD := hD0.self (sz := s.heap.size)
  generalize hAe : va_A (BWW ad b) s.heap.size = A at hD hF ⊢
  have hA : ∀ q : Nat, s.heap.size ≤ q → A q := fun q h => by rw [← hAe]; exact Or.inr h
  obtain ⟨H, hHe⟩ : ∃ H : Heap, H = s.heap := ⟨_, rfl⟩
  have hS : va_S A s.heap H [] := by rw [hHe]; exact va_S.rf
  have hP : va_P D vwCl ([] ++ BWW ad b) H := by rw [hHe]; exact hP
  have hD : va_D A ([] ++ BWW ad b) := hD
  have hK : va_K D vwCl ([] ++ BWT b) s := hK
  rw [← hHe]
  have hl := lv_entry [.ref a0, .ref (ad 26)] (n := 3) (Nat.le_of_ble_eq_true rfl)
  rw [lg_entry_eq]
  generalize (lg_sl [.ref a0, .ref (ad 26)] ++ List.replicate (3 - (lg_sl [.ref a0, .ref (ad 26)]).length) Slot.unset).toArray = ls at hl ⊢
  have hl : lv_has ls 3 [(0, .ref a0), (1, .ref (ad 26))] := hl
  generalize hF9 : F_L_reads_6 M = FF9
  have hM : FF9 = (adc 0 0 (K_L_reads_16_8 (F_L_append M 116))) := hF9.symm.trans (adc_0 _).symm
  refine lv_iconst (v := 0) hx hb dL_reads_0 (by decide) ?_
  refine lv_istore_n (lv' := [(2, .int 0), (0, .ref a0), (1, .ref (ad 26))]) hx hb dL_reads_1 rfl hl (by decide) rfl (fun ls hl => ?_)
  refine lv_iload_n hx hb dL_reads_2 rfl (lv_at hl 0 rfl) ?_
  refine lv_aload_n hx hb dL_reads_3 rfl (lv_at hl 2 rfl) ?_
  refine kr_ (va_runV (As := []) (rest := [.int 0]) ⟨hx, hb, hml, hown, hts⟩ (c_J0_length_8abf5_ad26 l hl0 D ad H.size) (cwV 0 hts gL_reads_J0_length_8abf5 rfl rfl rfl (by decide +kernel) ⟨Nat.le_of_ble_eq_true rfl, Nat.le_of_ble_eq_true rfl⟩) ⟨PR_.blind, vk_recv (fxst_ hF) (i := 6) (by decide) hS, PR_.pre hF hK (hP.sub [] rfl) hS hA [] rfl⟩ rfl rfl hl.1 rfl (lv_room (Nat.le_of_ble_eq_true rfl)) dL_reads_4 ⟨(adc_r0 hM), (adc_s0 hM)⟩) hP hS hA (fun H locs hP hS => ?_)
  refine W.eq (g2 := F0 m 7 ls [.int 8, .int 0]) rfl ?_
  refine lv_icmp_ge (tgt := 35) hx hb dL_reads_7 (by decide) (fun c9 => absurd c9 (by decide +kernel)) (fun _ => ?_)
  refine lv_aload_n hx hb dL_reads_10 rfl (lv_at hl 1 rfl) ?_
  refine lv_aload_n hx hb dL_reads_11 rfl (lv_at hl 2 rfl) ?_
  refine lv_iload_n hx hb dL_reads_12 rfl (lv_at hl 0 rfl) ?_
  refine kr_ (va_runV (As := [.int 0]) (rest := [.ref a0]) ⟨hx, hb, hml, hown, hts⟩ (c_J0_charAt_5068e_0_ad26 l hl0 D ad H.size) (cwV 1 hts gL_reads_J0_charAt_5068e rfl rfl rfl (by decide +kernel) ⟨Nat.le_of_ble_eq_true rfl, Nat.le_of_ble_eq_true rfl⟩) ⟨PR_.blind, vk_recv (fxst_ hF) (i := 6) (by decide) hS, PR_.pre hF hK (hP.sub [] rfl) hS hA [] rfl⟩ rfl rfl hl.1 rfl (lv_room (Nat.le_of_ble_eq_true rfl)) dL_reads_13 ⟨(adc_r0 hM), (adc_s0 hM)⟩) hP hS hA (fun H locs hP hS => ?_)
  refine W.eq (g2 := F0 m 16 ls [.int 116, .ref a0]) rfl ?_
  have hcon := (bl_L_append l hl0 D ad H.size b hBL a0 hb9 M hM9 Bd hXI (show Bd ≤ 900000 from (by have z0 := hBd; omega)) 116)
  generalize hy_3 : (F_L_append M 116) = y9 at hcon hM
  obtain ⟨y16_0, y16_1, y16_2, y16_3⟩ := y9
  have hM : FF9 = (adc 0 0 (adc y16_2 y16_3 (if y16_0 = 1 then (K_L_reads_16_7 (F_L_append y16_1 49)) else ((-9999), y16_1, 0, 0)))) := hM
  refine kwb_ [] [] (vx_runSW (As := [.ref a0, .int 116]) (rest := []) ⟨hx, hb, hml, hown, hts⟩ hcon (vx_cwSW 2 hts gL_reads_L_append rfl rfl rfl (by decide +kernel) ⟨Nat.le_of_ble_eq_true rfl, Nat.le_of_ble_eq_true rfl⟩) ⟨PC_.blind, lw_pre (X := []) (Y := []) hF hK hP hD hS hA⟩ rfl rfl hl.1 rfl (lv_room (Nat.le_of_ble_eq_true rfl)) dL_reads_16 ⟨(adc_r1 hM), (adc_s1 hM)⟩) hK hP hD hS hA (fun b_3 H locs hpo hP hD hK hS => ?_)
  have hM : FF9 = (adc (0 + y16_2) (0 + y16_3) (if y16_0 = 1 then (K_L_reads_16_7 (F_L_append y16_1 49)) else ((-9999), y16_1, 0, 0))) := hM.trans (adc_adc _ _ _ _ _)
  obtain ⟨hM9_3, hb9_3, hBL_3, hXI_3⟩ := hpo
  have hM9_3 : b_3.2.2.2 = y16_1 := hM9_3
  have hXI_3 : XI Bd y16_1 := hXI_3
  have hP : va_P D vwCl ([] ++ BWW ad b_3) H := hP
  have hD : va_D A ([] ++ BWW ad b_3) := hD
  have hK : va_K D vwCl ([] ++ BWT b_3) s := hK
  refine W.eq (g2 := F0 m 19 ls [.int y16_0]) rfl ?_
  refine lv_iload_n hx hb dL_reads_19 rfl (lv_at hl 0 rfl) ?_
  refine lv_iconst (v := 1) hx hb dL_reads_20 (by decide) ?_
  refine lv_iadd hx hb dL_reads_21 ?_
  refine kt_ (v := 1) (by decide +kernel) ?_
  refine lv_icmp_eq (tgt := 29) hx hb dL_reads_22 (by decide) (fun c_4 => ?_) (fun c_4 => ?_)
  · rw [if_pos c_4] at hM
    refine lv_iinc (v := 1) (lv' := [(2, .int 1), (0, .ref a0), (1, .ref (ad 26))]) hx hb dL_reads_29 hl (k := 0) rfl (by decide +kernel) (by decide) rfl (fun ls hl => ?_)
    refine lv_goto (tgt := 2) hx hb dL_reads_32 (by decide) ?_
    refine lv_iload_n hx hb dL_reads_2 rfl (lv_at hl 0 rfl) ?_
    refine lv_aload_n hx hb dL_reads_3 rfl (lv_at hl 2 rfl) ?_
    refine kr_ (va_runV (As := []) (rest := [.int 1]) ⟨hx, hb, hml, hown, hts⟩ (c_J0_length_8abf5_ad26 l hl0 D ad H.size) (cwV 0 hts gL_reads_J0_length_8abf5 rfl rfl rfl (by decide +kernel) ⟨Nat.le_of_ble_eq_true rfl, Nat.le_of_ble_eq_true rfl⟩) ⟨PR_.blind, vk_recv (fxst_ hF) (i := 6) (by decide) hS, PR_.pre hF hK (hP.sub [] rfl) hS hA [] rfl⟩ rfl rfl hl.1 rfl (lv_room (Nat.le_of_ble_eq_true rfl)) dL_reads_4 ⟨(adc_r0 hM), (adc_s0 hM)⟩) hP hS hA (fun H locs hP hS => ?_)
    refine W.eq (g2 := F0 m 7 ls [.int 8, .int 1]) rfl ?_
    refine lv_icmp_ge (tgt := 35) hx hb dL_reads_7 (by decide) (fun c9 => absurd c9 (by decide +kernel)) (fun _ => ?_)
    refine lv_aload_n hx hb dL_reads_10 rfl (lv_at hl 1 rfl) ?_
    refine lv_aload_n hx hb dL_reads_11 rfl (lv_at hl 2 rfl) ?_
    refine lv_iload_n hx hb dL_reads_12 rfl (lv_at hl 0 rfl) ?_
    refine kr_ (va_runV (As := [.int 1]) (rest := [.ref a0]) ⟨hx, hb, hml, hown, hts⟩ (c_J0_charAt_5068e_1_ad26 l hl0 D ad H.size) (cwV 1 hts gL_reads_J0_charAt_5068e rfl rfl rfl (by decide +kernel) ⟨Nat.le_of_ble_eq_true rfl, Nat.le_of_ble_eq_true rfl⟩) ⟨PR_.blind, vk_recv (fxst_ hF) (i := 6) (by decide) hS, PR_.pre hF hK (hP.sub [] rfl) hS hA [] rfl⟩ rfl rfl hl.1 rfl (lv_room (Nat.le_of_ble_eq_true rfl)) dL_reads_13 ⟨(adc_r0 hM), (adc_s0 hM)⟩) hP hS hA (fun H locs hP hS => ?_)
    refine W.eq (g2 := F0 m 16 ls [.int 49, .ref a0]) rfl ?_
    have hcon := (bl_L_append l hl0 D ad H.size b_3 hBL_3 a0 hb9_3 y16_1 hM9_3 Bd hXI_3 (show Bd ≤ 900000 from (by have y0 := f_eq c_4; have z0 := hBd; have e_1 : (1 : Int32).toInt = 1 := (by decide +kernel); omega)) 49)
    generalize hy_7 : (F_L_append y16_1 49) = y9 at hcon hM
    obtain ⟨y16b_0, y16b_1, y16b_2, y16b_3⟩ := y9
    have hM : FF9 = (adc (0 + y16_2) (0 + y16_3) (adc y16b_2 y16b_3 (if y16b_0 = 2 then (K_L_reads_16_6 (F_L_append y16b_1 59)) else ((-9999), y16b_1, 0, 0)))) := hM
    refine kwb_ [] [] (vx_runSW (As := [.ref a0, .int 49]) (rest := []) ⟨hx, hb, hml, hown, hts⟩ hcon (vx_cwSW 2 hts gL_reads_L_append rfl rfl rfl (by decide +kernel) ⟨Nat.le_of_ble_eq_true rfl, Nat.le_of_ble_eq_true rfl⟩) ⟨PC_.blind, lw_pre (X := []) (Y := []) hF hK hP hD hS hA⟩ rfl rfl hl.1 rfl (lv_room (Nat.le_of_ble_eq_true rfl)) dL_reads_16 ⟨(adc_r1 hM), (adc_s1 hM)⟩) hK hP hD hS hA (fun b_7 H locs hpo hP hD hK hS => ?_)
    have hM : FF9 = (adc ((0 + y16_2) + y16b_2) ((0 + y16_3) + y16b_3) (if y16b_0 = 2 then (K_L_reads_16_6 (F_L_append y16b_1 59)) else ((-9999), y16b_1, 0, 0))) := hM.trans (adc_adc _ _ _ _ _)
    obtain ⟨hM9_7, hb9_7, hBL_7, hXI_7⟩ := hpo
    have hM9_7 : b_7.2.2.2 = y16b_1 := hM9_7
    have hXI_7 : XI Bd y16b_1 := hXI_7
    have hP : va_P D vwCl ([] ++ BWW ad b_7) H := hP
    have hD : va_D A ([] ++ BWW ad b_7) := hD
    have hK : va_K D vwCl ([] ++ BWT b_7) s := hK
    refine W.eq (g2 := F0 m 19 ls [.int y16b_0]) rfl ?_
    refine lv_iload_n hx hb dL_reads_19 rfl (lv_at hl 0 rfl) ?_
    refine lv_iconst (v := 1) hx hb dL_reads_20 (by decide) ?_
    refine lv_iadd hx hb dL_reads_21 ?_
    refine kt_ (v := 2) (by decide +kernel) ?_
    refine lv_icmp_eq (tgt := 29) hx hb dL_reads_22 (by decide) (fun c_8 => ?_) (fun c_8 => ?_)
    · rw [if_pos c_8] at hM
      refine lv_iinc (v := 2) (lv' := [(2, .int 2), (0, .ref a0), (1, .ref (ad 26))]) hx hb dL_reads_29 hl (k := 0) rfl (by decide +kernel) (by decide) rfl (fun ls hl => ?_)
      refine lv_goto (tgt := 2) hx hb dL_reads_32 (by decide) ?_
      refine lv_iload_n hx hb dL_reads_2 rfl (lv_at hl 0 rfl) ?_
      refine lv_aload_n hx hb dL_reads_3 rfl (lv_at hl 2 rfl) ?_
      refine kr_ (va_runV (As := []) (rest := [.int 2]) ⟨hx, hb, hml, hown, hts⟩ (c_J0_length_8abf5_ad26 l hl0 D ad H.size) (cwV 0 hts gL_reads_J0_length_8abf5 rfl rfl rfl (by decide +kernel) ⟨Nat.le_of_ble_eq_true rfl, Nat.le_of_ble_eq_true rfl⟩) ⟨PR_.blind, vk_recv (fxst_ hF) (i := 6) (by decide) hS, PR_.pre hF hK (hP.sub [] rfl) hS hA [] rfl⟩ rfl rfl hl.1 rfl (lv_room (Nat.le_of_ble_eq_true rfl)) dL_reads_4 ⟨(adc_r0 hM), (adc_s0 hM)⟩) hP hS hA (fun H locs hP hS => ?_)
      refine W.eq (g2 := F0 m 7 ls [.int 8, .int 2]) rfl ?_
      refine lv_icmp_ge (tgt := 35) hx hb dL_reads_7 (by decide) (fun c9 => absurd c9 (by decide +kernel)) (fun _ => ?_)
      refine lv_aload_n hx hb dL_reads_10 rfl (lv_at hl 1 rfl) ?_
      refine lv_aload_n hx hb dL_reads_11 rfl (lv_at hl 2 rfl) ?_
      refine lv_iload_n hx hb dL_reads_12 rfl (lv_at hl 0 rfl) ?_
      refine kr_ (va_runV (As := [.int 2]) (rest := [.ref a0]) ⟨hx, hb, hml, hown, hts⟩ (c_J0_charAt_5068e_2_ad26 l hl0 D ad H.size) (cwV 1 hts gL_reads_J0_charAt_5068e rfl rfl rfl (by decide +kernel) ⟨Nat.le_of_ble_eq_true rfl, Nat.le_of_ble_eq_true rfl⟩) ⟨PR_.blind, vk_recv (fxst_ hF) (i := 6) (by decide) hS, PR_.pre hF hK (hP.sub [] rfl) hS hA [] rfl⟩ rfl rfl hl.1 rfl (lv_room (Nat.le_of_ble_eq_true rfl)) dL_reads_13 ⟨(adc_r0 hM), (adc_s0 hM)⟩) hP hS hA (fun H locs hP hS => ?_)
      refine W.eq (g2 := F0 m 16 ls [.int 59, .ref a0]) rfl ?_
      have hcon := (bl_L_append l hl0 D ad H.size b_7 hBL_7 a0 hb9_7 y16b_1 hM9_7 Bd hXI_7 (show Bd ≤ 900000 from (by have y0 := f_eq c_4; have y1 := f_eq c_8; have z0 := hBd; have e_1 : (1 : Int32).toInt = 1 := (by decide +kernel); have e_2 : (2 : Int32).toInt = 2 := (by decide +kernel); omega)) 59)
      generalize hy_11 : (F_L_append y16b_1 59) = y9 at hcon hM
      obtain ⟨y16bb_0, y16bb_1, y16bb_2, y16bb_3⟩ := y9
      have hM : FF9 = (adc ((0 + y16_2) + y16b_2) ((0 + y16_3) + y16b_3) (adc y16bb_2 y16bb_3 (if y16bb_0 = 3 then (K_L_reads_16_5 (F_L_append y16bb_1 116)) else ((-9999), y16bb_1, 0, 0)))) := hM
      refine kwb_ [] [] (vx_runSW (As := [.ref a0, .int 59]) (rest := []) ⟨hx, hb, hml, hown, hts⟩ hcon (vx_cwSW 2 hts gL_reads_L_append rfl rfl rfl (by decide +kernel) ⟨Nat.le_of_ble_eq_true rfl, Nat.le_of_ble_eq_true rfl⟩) ⟨PC_.blind, lw_pre (X := []) (Y := []) hF hK hP hD hS hA⟩ rfl rfl hl.1 rfl (lv_room (Nat.le_of_ble_eq_true rfl)) dL_reads_16 ⟨(adc_r1 hM), (adc_s1 hM)⟩) hK hP hD hS hA (fun b_11 H locs hpo hP hD hK hS => ?_)
      have hM : FF9 = (adc (((0 + y16_2) + y16b_2) + y16bb_2) (((0 + y16_3) + y16b_3) + y16bb_3) (if y16bb_0 = 3 then (K_L_reads_16_5 (F_L_append y16bb_1 116)) else ((-9999), y16bb_1, 0, 0))) := hM.trans (adc_adc _ _ _ _ _)
      obtain ⟨hM9_11, hb9_11, hBL_11, hXI_11⟩ := hpo
      have hM9_11 : b_11.2.2.2 = y16bb_1 := hM9_11
      have hXI_11 : XI Bd y16bb_1 := hXI_11
      have hP : va_P D vwCl ([] ++ BWW ad b_11) H := hP
      have hD : va_D A ([] ++ BWW ad b_11) := hD
      have hK : va_K D vwCl ([] ++ BWT b_11) s := hK
      refine W.eq (g2 := F0 m 19 ls [.int y16bb_0]) rfl ?_
      refine lv_iload_n hx hb dL_reads_19 rfl (lv_at hl 0 rfl) ?_
      refine lv_iconst (v := 1) hx hb dL_reads_20 (by decide) ?_
      refine lv_iadd hx hb dL_reads_21 ?_
      refine kt_ (v := 3) (by decide +kernel) ?_
      refine lv_icmp_eq (tgt := 29) hx hb dL_reads_22 (by decide) (fun c_12 => ?_) (fun c_12 => ?_)
      · rw [if_pos c_12] at hM
        refine lv_iinc (v := 3) (lv' := [(2, .int 3), (0, .ref a0), (1, .ref (ad 26))]) hx hb dL_reads_29 hl (k := 0) rfl (by decide +kernel) (by decide) rfl (fun ls hl => ?_)
        refine lv_goto (tgt := 2) hx hb dL_reads_32 (by decide) ?_
        refine lv_iload_n hx hb dL_reads_2 rfl (lv_at hl 0 rfl) ?_
        refine lv_aload_n hx hb dL_reads_3 rfl (lv_at hl 2 rfl) ?_
        refine kr_ (va_runV (As := []) (rest := [.int 3]) ⟨hx, hb, hml, hown, hts⟩ (c_J0_length_8abf5_ad26 l hl0 D ad H.size) (cwV 0 hts gL_reads_J0_length_8abf5 rfl rfl rfl (by decide +kernel) ⟨Nat.le_of_ble_eq_true rfl, Nat.le_of_ble_eq_true rfl⟩) ⟨PR_.blind, vk_recv (fxst_ hF) (i := 6) (by decide) hS, PR_.pre hF hK (hP.sub [] rfl) hS hA [] rfl⟩ rfl rfl hl.1 rfl (lv_room (Nat.le_of_ble_eq_true rfl)) dL_reads_4 ⟨(adc_r0 hM), (adc_s0 hM)⟩) hP hS hA (fun H locs hP hS => ?_)
        refine W.eq (g2 := F0 m 7 ls [.int 8, .int 3]) rfl ?_
        refine lv_icmp_ge (tgt := 35) hx hb dL_reads_7 (by decide) (fun c9 => absurd c9 (by decide +kernel)) (fun _ => ?_)
        refine lv_aload_n hx hb dL_reads_10 rfl (lv_at hl 1 rfl) ?_
        refine lv_aload_n hx hb dL_reads_11 rfl (lv_at hl 2 rfl) ?_
        refine lv_iload_n hx hb dL_reads_12 rfl (lv_at hl 0 rfl) ?_
        refine kr_ (va_runV (As := [.int 3]) (rest := [.ref a0]) ⟨hx, hb, hml, hown, hts⟩ (c_J0_charAt_5068e_3_ad26 l hl0 D ad H.size) (cwV 1 hts gL_reads_J0_charAt_5068e rfl rfl rfl (by decide +kernel) ⟨Nat.le_of_ble_eq_true rfl, Nat.le_of_ble_eq_true rfl⟩) ⟨PR_.blind, vk_recv (fxst_ hF) (i := 6) (by decide) hS, PR_.pre hF hK (hP.sub [] rfl) hS hA [] rfl⟩ rfl rfl hl.1 rfl (lv_room (Nat.le_of_ble_eq_true rfl)) dL_reads_13 ⟨(adc_r0 hM), (adc_s0 hM)⟩) hP hS hA (fun H locs hP hS => ?_)
        refine W.eq (g2 := F0 m 16 ls [.int 116, .ref a0]) rfl ?_
        have hcon := (bl_L_append l hl0 D ad H.size b_11 hBL_11 a0 hb9_11 y16bb_1 hM9_11 Bd hXI_11 (show Bd ≤ 900000 from (by have y0 := f_eq c_4; have y1 := f_eq c_8; have y2 := f_eq c_12; have z0 := hBd; have e_1 : (1 : Int32).toInt = 1 := (by decide +kernel); have e_2 : (2 : Int32).toInt = 2 := (by decide +kernel); have e_3 : (3 : Int32).toInt = 3 := (by decide +kernel); omega)) 116)
        generalize hy_15 : (F_L_append y16bb_1 116) = y9 at hcon hM
        obtain ⟨y16bbb_0, y16bbb_1, y16bbb_2, y16bbb_3⟩ := y9
        have hM : FF9 = (adc (((0 + y16_2) + y16b_2) + y16bb_2) (((0 + y16_3) + y16b_3) + y16bb_3) (adc y16bbb_2 y16bbb_3 (if y16bbb_0 = 4 then (K_L_reads_16_4 (F_L_append y16bbb_1 50)) else ((-9999), y16bbb_1, 0, 0)))) := hM
        refine kwb_ [] [] (vx_runSW (As := [.ref a0, .int 116]) (rest := []) ⟨hx, hb, hml, hown, hts⟩ hcon (vx_cwSW 2 hts gL_reads_L_append rfl rfl rfl (by decide +kernel) ⟨Nat.le_of_ble_eq_true rfl, Nat.le_of_ble_eq_true rfl⟩) ⟨PC_.blind, lw_pre (X := []) (Y := []) hF hK hP hD hS hA⟩ rfl rfl hl.1 rfl (lv_room (Nat.le_of_ble_eq_true rfl)) dL_reads_16 ⟨(adc_r1 hM), (adc_s1 hM)⟩) hK hP hD hS hA (fun b_15 H locs hpo hP hD hK hS => ?_)
        have hM : FF9 = (adc ((((0 + y16_2) + y16b_2) + y16bb_2) + y16bbb_2) ((((0 + y16_3) + y16b_3) + y16bb_3) + y16bbb_3) (if y16bbb_0 = 4 then (K_L_reads_16_4 (F_L_append y16bbb_1 50)) else ((-9999), y16bbb_1, 0, 0))) := hM.trans (adc_adc _ _ _ _ _)
        obtain ⟨hM9_15, hb9_15, hBL_15, hXI_15⟩ := hpo
        have hM9_15 : b_15.2.2.2 = y16bbb_1 := hM9_15
        have hXI_15 : XI Bd y16bbb_1 := hXI_15
        have hP : va_P D vwCl ([] ++ BWW ad b_15) H := hP
        have hD : va_D A ([] ++ BWW ad b_15) := hD
        have hK : va_K D vwCl ([] ++ BWT b_15) s := hK
        refine W.eq (g2 := F0 m 19 ls [.int y16bbb_0]) rfl ?_
        refine lv_iload_n hx hb dL_reads_19 rfl (lv_at hl 0 rfl) ?_
        refine lv_iconst (v := 1) hx hb dL_reads_20 (by decide) ?_
        refine lv_iadd hx hb dL_reads_21 ?_
        refine kt_ (v := 4) (by decide +kernel) ?_
        refine lv_icmp_eq (tgt := 29) hx hb dL_reads_22 (by decide) (fun c_16 => ?_) (fun c_16 => ?_)
        · rw [if_pos c_16] at hM
          refine lv_iinc (v := 4) (lv' := [(2, .int 4), (0, .ref a0), (1, .ref (ad 26))]) hx hb dL_reads_29 hl (k := 0) rfl (by decide +kernel) (by decide) rfl (fun ls hl => ?_)
          refine lv_goto (tgt := 2) hx hb dL_reads_32 (by decide) ?_
          refine lv_iload_n hx hb dL_reads_2 rfl (lv_at hl 0 rfl) ?_
          refine lv_aload_n hx hb dL_reads_3 rfl (lv_at hl 2 rfl) ?_
          refine kr_ (va_runV (As := []) (rest := [.int 4]) ⟨hx, hb, hml, hown, hts⟩ (c_J0_length_8abf5_ad26 l hl0 D ad H.size) (cwV 0 hts gL_reads_J0_length_8abf5 rfl rfl rfl (by decide +kernel) ⟨Nat.le_of_ble_eq_true rfl, Nat.le_of_ble_eq_true rfl⟩) ⟨PR_.blind, vk_recv (fxst_ hF) (i := 6) (by decide) hS, PR_.pre hF hK (hP.sub [] rfl) hS hA [] rfl⟩ rfl rfl hl.1 rfl (lv_room (Nat.le_of_ble_eq_true rfl)) dL_reads_4 ⟨(adc_r0 hM), (adc_s0 hM)⟩) hP hS hA (fun H locs hP hS => ?_)
          refine W.eq (g2 := F0 m 7 ls [.int 8, .int 4]) rfl ?_
          refine lv_icmp_ge (tgt := 35) hx hb dL_reads_7 (by decide) (fun c9 => absurd c9 (by decide +kernel)) (fun _ => ?_)
          refine lv_aload_n hx hb dL_reads_10 rfl (lv_at hl 1 rfl) ?_
          refine lv_aload_n hx hb dL_reads_11 rfl (lv_at hl 2 rfl) ?_
          refine lv_iload_n hx hb dL_reads_12 rfl (lv_at hl 0 rfl) ?_
          refine kr_ (va_runV (As := [.int 4]) (rest := [.ref a0]) ⟨hx, hb, hml, hown, hts⟩ (c_J0_charAt_5068e_4_ad26 l hl0 D ad H.size) (cwV 1 hts gL_reads_J0_charAt_5068e rfl rfl rfl (by decide +kernel) ⟨Nat.le_of_ble_eq_true rfl, Nat.le_of_ble_eq_true rfl⟩) ⟨PR_.blind, vk_recv (fxst_ hF) (i := 6) (by decide) hS, PR_.pre hF hK (hP.sub [] rfl) hS hA [] rfl⟩ rfl rfl hl.1 rfl (lv_room (Nat.le_of_ble_eq_true rfl)) dL_reads_13 ⟨(adc_r0 hM), (adc_s0 hM)⟩) hP hS hA (fun H locs hP hS => ?_)
          refine W.eq (g2 := F0 m 16 ls [.int 50, .ref a0]) rfl ?_
          have hcon := (bl_L_append l hl0 D ad H.size b_15 hBL_15 a0 hb9_15 y16bbb_1 hM9_15 Bd hXI_15 (show Bd ≤ 900000 from (by have y0 := f_eq c_4; have y1 := f_eq c_8; have y2 := f_eq c_12; have y3 := f_eq c_16; have z0 := hBd; have e_1 : (1 : Int32).toInt = 1 := (by decide +kernel); have e_2 : (2 : Int32).toInt = 2 := (by decide +kernel); have e_3 : (3 : Int32).toInt = 3 := (by decide +kernel); have e_4 : (4 : Int32).toInt = 4 := (by decide +kernel); omega)) 50)
          generalize hy_19 : (F_L_append y16bbb_1 50) = y9 at hcon hM
          obtain ⟨y16bbbb_0, y16bbbb_1, y16bbbb_2, y16bbbb_3⟩ := y9
          have hM : FF9 = (adc ((((0 + y16_2) + y16b_2) + y16bb_2) + y16bbb_2) ((((0 + y16_3) + y16b_3) + y16bb_3) + y16bbb_3) (adc y16bbbb_2 y16bbbb_3 (if y16bbbb_0 = 5 then (K_L_reads_16_3 (F_L_append y16bbbb_1 59)) else ((-9999), y16bbbb_1, 0, 0)))) := hM
          refine kwb_ [] [] (vx_runSW (As := [.ref a0, .int 50]) (rest := []) ⟨hx, hb, hml, hown, hts⟩ hcon (vx_cwSW 2 hts gL_reads_L_append rfl rfl rfl (by decide +kernel) ⟨Nat.le_of_ble_eq_true rfl, Nat.le_of_ble_eq_true rfl⟩) ⟨PC_.blind, lw_pre (X := []) (Y := []) hF hK hP hD hS hA⟩ rfl rfl hl.1 rfl (lv_room (Nat.le_of_ble_eq_true rfl)) dL_reads_16 ⟨(adc_r1 hM), (adc_s1 hM)⟩) hK hP hD hS hA (fun b_19 H locs hpo hP hD hK hS => ?_)
          have hM : FF9 = (adc (((((0 + y16_2) + y16b_2) + y16bb_2) + y16bbb_2) + y16bbbb_2) (((((0 + y16_3) + y16b_3) + y16bb_3) + y16bbb_3) + y16bbbb_3) (if y16bbbb_0 = 5 then (K_L_reads_16_3 (F_L_append y16bbbb_1 59)) else ((-9999), y16bbbb_1, 0, 0))) := hM.trans (adc_adc _ _ _ _ _)
          obtain ⟨hM9_19, hb9_19, hBL_19, hXI_19⟩ := hpo
          have hM9_19 : b_19.2.2.2 = y16bbbb_1 := hM9_19
          have hXI_19 : XI Bd y16bbbb_1 := hXI_19
          have hP : va_P D vwCl ([] ++ BWW ad b_19) H := hP
          have hD : va_D A ([] ++ BWW ad b_19) := hD
          have hK : va_K D vwCl ([] ++ BWT b_19) s := hK
          refine W.eq (g2 := F0 m 19 ls [.int y16bbbb_0]) rfl ?_
          refine lv_iload_n hx hb dL_reads_19 rfl (lv_at hl 0 rfl) ?_
          refine lv_iconst (v := 1) hx hb dL_reads_20 (by decide) ?_
          refine lv_iadd hx hb dL_reads_21 ?_
          refine kt_ (v := 5) (by decide +kernel) ?_
          refine lv_icmp_eq (tgt := 29) hx hb dL_reads_22 (by decide) (fun c_20 => ?_) (fun c_20 => ?_)
          · rw [if_pos c_20] at hM
            refine lv_iinc (v := 5) (lv' := [(2, .int 5), (0, .ref a0), (1, .ref (ad 26))]) hx hb dL_reads_29 hl (k := 0) rfl (by decide +kernel) (by decide) rfl (fun ls hl => ?_)
            refine lv_goto (tgt := 2) hx hb dL_reads_32 (by decide) ?_
            refine lv_iload_n hx hb dL_reads_2 rfl (lv_at hl 0 rfl) ?_
            refine lv_aload_n hx hb dL_reads_3 rfl (lv_at hl 2 rfl) ?_
            refine kr_ (va_runV (As := []) (rest := [.int 5]) ⟨hx, hb, hml, hown, hts⟩ (c_J0_length_8abf5_ad26 l hl0 D ad H.size) (cwV 0 hts gL_reads_J0_length_8abf5 rfl rfl rfl (by decide +kernel) ⟨Nat.le_of_ble_eq_true rfl, Nat.le_of_ble_eq_true rfl⟩) ⟨PR_.blind, vk_recv (fxst_ hF) (i := 6) (by decide) hS, PR_.pre hF hK (hP.sub [] rfl) hS hA [] rfl⟩ rfl rfl hl.1 rfl (lv_room (Nat.le_of_ble_eq_true rfl)) dL_reads_4 ⟨(adc_r0 hM), (adc_s0 hM)⟩) hP hS hA (fun H locs hP hS => ?_)
            refine W.eq (g2 := F0 m 7 ls [.int 8, .int 5]) rfl ?_
            refine lv_icmp_ge (tgt := 35) hx hb dL_reads_7 (by decide) (fun c9 => absurd c9 (by decide +kernel)) (fun _ => ?_)
            refine lv_aload_n hx hb dL_reads_10 rfl (lv_at hl 1 rfl) ?_
            refine lv_aload_n hx hb dL_reads_11 rfl (lv_at hl 2 rfl) ?_
            refine lv_iload_n hx hb dL_reads_12 rfl (lv_at hl 0 rfl) ?_
            refine kr_ (va_runV (As := [.int 5]) (rest := [.ref a0]) ⟨hx, hb, hml, hown, hts⟩ (c_J0_charAt_5068e_5_ad26 l hl0 D ad H.size) (cwV 1 hts gL_reads_J0_charAt_5068e rfl rfl rfl (by decide +kernel) ⟨Nat.le_of_ble_eq_true rfl, Nat.le_of_ble_eq_true rfl⟩) ⟨PR_.blind, vk_recv (fxst_ hF) (i := 6) (by decide) hS, PR_.pre hF hK (hP.sub [] rfl) hS hA [] rfl⟩ rfl rfl hl.1 rfl (lv_room (Nat.le_of_ble_eq_true rfl)) dL_reads_13 ⟨(adc_r0 hM), (adc_s0 hM)⟩) hP hS hA (fun H locs hP hS => ?_)
            refine W.eq (g2 := F0 m 16 ls [.int 59, .ref a0]) rfl ?_
            have hcon := (bl_L_append l hl0 D ad H.size b_19 hBL_19 a0 hb9_19 y16bbbb_1 hM9_19 Bd hXI_19 (show Bd ≤ 900000 from (by have y0 := f_eq c_4; have y1 := f_eq c_8; have y2 := f_eq c_12; have y3 := f_eq c_16; have y4 := f_eq c_20; have z0 := hBd; have e_1 : (1 : Int32).toInt = 1 := (by decide +kernel); have e_2 : (2 : Int32).toInt = 2 := (by decide +kernel); have e_3 : (3 : Int32).toInt = 3 := (by decide +kernel); have e_4 : (4 : Int32).toInt = 4 := (by decide +kernel); have e_5 : (5 : Int32).toInt = 5 := (by decide +kernel); omega)) 59)
            generalize hy_23 : (F_L_append y16bbbb_1 59) = y9 at hcon hM
            obtain ⟨y16bbbbb_0, y16bbbbb_1, y16bbbbb_2, y16bbbbb_3⟩ := y9
            have hM : FF9 = (adc (((((0 + y16_2) + y16b_2) + y16bb_2) + y16bbb_2) + y16bbbb_2) (((((0 + y16_3) + y16b_3) + y16bb_3) + y16bbb_3) + y16bbbb_3) (adc y16bbbbb_2 y16bbbbb_3 (if y16bbbbb_0 = 6 then (K_L_reads_16_2 (F_L_append y16bbbbb_1 116)) else ((-9999), y16bbbbb_1, 0, 0)))) := hM
            refine kwb_ [] [] (vx_runSW (As := [.ref a0, .int 59]) (rest := []) ⟨hx, hb, hml, hown, hts⟩ hcon (vx_cwSW 2 hts gL_reads_L_append rfl rfl rfl (by decide +kernel) ⟨Nat.le_of_ble_eq_true rfl, Nat.le_of_ble_eq_true rfl⟩) ⟨PC_.blind, lw_pre (X := []) (Y := []) hF hK hP hD hS hA⟩ rfl rfl hl.1 rfl (lv_room (Nat.le_of_ble_eq_true rfl)) dL_reads_16 ⟨(adc_r1 hM), (adc_s1 hM)⟩) hK hP hD hS hA (fun b_23 H locs hpo hP hD hK hS => ?_)
            have hM : FF9 = (adc ((((((0 + y16_2) + y16b_2) + y16bb_2) + y16bbb_2) + y16bbbb_2) + y16bbbbb_2) ((((((0 + y16_3) + y16b_3) + y16bb_3) + y16bbb_3) + y16bbbb_3) + y16bbbbb_3) (if y16bbbbb_0 = 6 then (K_L_reads_16_2 (F_L_append y16bbbbb_1 116)) else ((-9999), y16bbbbb_1, 0, 0))) := hM.trans (adc_adc _ _ _ _ _)
            obtain ⟨hM9_23, hb9_23, hBL_23, hXI_23⟩ := hpo
            have hM9_23 : b_23.2.2.2 = y16bbbbb_1 := hM9_23
            have hXI_23 : XI Bd y16bbbbb_1 := hXI_23
            have hP : va_P D vwCl ([] ++ BWW ad b_23) H := hP
            have hD : va_D A ([] ++ BWW ad b_23) := hD
            have hK : va_K D vwCl ([] ++ BWT b_23) s := hK
            refine W.eq (g2 := F0 m 19 ls [.int y16bbbbb_0]) rfl ?_
            refine lv_iload_n hx hb dL_reads_19 rfl (lv_at hl 0 rfl) ?_
            refine lv_iconst (v := 1) hx hb dL_reads_20 (by decide) ?_
            refine lv_iadd hx hb dL_reads_21 ?_
            refine kt_ (v := 6) (by decide +kernel) ?_
            refine lv_icmp_eq (tgt := 29) hx hb dL_reads_22 (by decide) (fun c_24 => ?_) (fun c_24 => ?_)
            · rw [if_pos c_24] at hM
              refine lv_iinc (v := 6) (lv' := [(2, .int 6), (0, .ref a0), (1, .ref (ad 26))]) hx hb dL_reads_29 hl (k := 0) rfl (by decide +kernel) (by decide) rfl (fun ls hl => ?_)
              refine lv_goto (tgt := 2) hx hb dL_reads_32 (by decide) ?_
              refine lv_iload_n hx hb dL_reads_2 rfl (lv_at hl 0 rfl) ?_
              refine lv_aload_n hx hb dL_reads_3 rfl (lv_at hl 2 rfl) ?_
              refine kr_ (va_runV (As := []) (rest := [.int 6]) ⟨hx, hb, hml, hown, hts⟩ (c_J0_length_8abf5_ad26 l hl0 D ad H.size) (cwV 0 hts gL_reads_J0_length_8abf5 rfl rfl rfl (by decide +kernel) ⟨Nat.le_of_ble_eq_true rfl, Nat.le_of_ble_eq_true rfl⟩) ⟨PR_.blind, vk_recv (fxst_ hF) (i := 6) (by decide) hS, PR_.pre hF hK (hP.sub [] rfl) hS hA [] rfl⟩ rfl rfl hl.1 rfl (lv_room (Nat.le_of_ble_eq_true rfl)) dL_reads_4 ⟨(adc_r0 hM), (adc_s0 hM)⟩) hP hS hA (fun H locs hP hS => ?_)
              refine W.eq (g2 := F0 m 7 ls [.int 8, .int 6]) rfl ?_
              refine lv_icmp_ge (tgt := 35) hx hb dL_reads_7 (by decide) (fun c9 => absurd c9 (by decide +kernel)) (fun _ => ?_)
              refine lv_aload_n hx hb dL_reads_10 rfl (lv_at hl 1 rfl) ?_
              refine lv_aload_n hx hb dL_reads_11 rfl (lv_at hl 2 rfl) ?_
              refine lv_iload_n hx hb dL_reads_12 rfl (lv_at hl 0 rfl) ?_
              refine kr_ (va_runV (As := [.int 6]) (rest := [.ref a0]) ⟨hx, hb, hml, hown, hts⟩ (c_J0_charAt_5068e_6_ad26 l hl0 D ad H.size) (cwV 1 hts gL_reads_J0_charAt_5068e rfl rfl rfl (by decide +kernel) ⟨Nat.le_of_ble_eq_true rfl, Nat.le_of_ble_eq_true rfl⟩) ⟨PR_.blind, vk_recv (fxst_ hF) (i := 6) (by decide) hS, PR_.pre hF hK (hP.sub [] rfl) hS hA [] rfl⟩ rfl rfl hl.1 rfl (lv_room (Nat.le_of_ble_eq_true rfl)) dL_reads_13 ⟨(adc_r0 hM), (adc_s0 hM)⟩) hP hS hA (fun H locs hP hS => ?_)
              refine W.eq (g2 := F0 m 16 ls [.int 116, .ref a0]) rfl ?_
              have hcon := (bl_L_append l hl0 D ad H.size b_23 hBL_23 a0 hb9_23 y16bbbbb_1 hM9_23 Bd hXI_23 (show Bd ≤ 900000 from (by have y0 := f_eq c_4; have y1 := f_eq c_8; have y2 := f_eq c_12; have y3 := f_eq c_16; have y4 := f_eq c_20; have y5 := f_eq c_24; have z0 := hBd; have e_1 : (1 : Int32).toInt = 1 := (by decide +kernel); have e_2 : (2 : Int32).toInt = 2 := (by decide +kernel); have e_3 : (3 : Int32).toInt = 3 := (by decide +kernel); have e_4 : (4 : Int32).toInt = 4 := (by decide +kernel); have e_5 : (5 : Int32).toInt = 5 := (by decide +kernel); have e_6 : (6 : Int32).toInt = 6 := (by decide +kernel); omega)) 116)
              generalize hy_27 : (F_L_append y16bbbbb_1 116) = y9 at hcon hM
              obtain ⟨y16bbbbbb_0, y16bbbbbb_1, y16bbbbbb_2, y16bbbbbb_3⟩ := y9
              have hM : FF9 = (adc ((((((0 + y16_2) + y16b_2) + y16bb_2) + y16bbb_2) + y16bbbb_2) + y16bbbbb_2) ((((((0 + y16_3) + y16b_3) + y16bb_3) + y16bbb_3) + y16bbbb_3) + y16bbbbb_3) (adc y16bbbbbb_2 y16bbbbbb_3 (if y16bbbbbb_0 = 7 then (K_L_reads_16_1 (F_L_append y16bbbbbb_1 48)) else ((-9999), y16bbbbbb_1, 0, 0)))) := hM
              refine kwb_ [] [] (vx_runSW (As := [.ref a0, .int 116]) (rest := []) ⟨hx, hb, hml, hown, hts⟩ hcon (vx_cwSW 2 hts gL_reads_L_append rfl rfl rfl (by decide +kernel) ⟨Nat.le_of_ble_eq_true rfl, Nat.le_of_ble_eq_true rfl⟩) ⟨PC_.blind, lw_pre (X := []) (Y := []) hF hK hP hD hS hA⟩ rfl rfl hl.1 rfl (lv_room (Nat.le_of_ble_eq_true rfl)) dL_reads_16 ⟨(adc_r1 hM), (adc_s1 hM)⟩) hK hP hD hS hA (fun b_27 H locs hpo hP hD hK hS => ?_)
              have hM : FF9 = (adc (((((((0 + y16_2) + y16b_2) + y16bb_2) + y16bbb_2) + y16bbbb_2) + y16bbbbb_2) + y16bbbbbb_2) (((((((0 + y16_3) + y16b_3) + y16bb_3) + y16bbb_3) + y16bbbb_3) + y16bbbbb_3) + y16bbbbbb_3) (if y16bbbbbb_0 = 7 then (K_L_reads_16_1 (F_L_append y16bbbbbb_1 48)) else ((-9999), y16bbbbbb_1, 0, 0))) := hM.trans (adc_adc _ _ _ _ _)
              obtain ⟨hM9_27, hb9_27, hBL_27, hXI_27⟩ := hpo
              have hM9_27 : b_27.2.2.2 = y16bbbbbb_1 := hM9_27
              have hXI_27 : XI Bd y16bbbbbb_1 := hXI_27
              have hP : va_P D vwCl ([] ++ BWW ad b_27) H := hP
              have hD : va_D A ([] ++ BWW ad b_27) := hD
              have hK : va_K D vwCl ([] ++ BWT b_27) s := hK
              refine W.eq (g2 := F0 m 19 ls [.int y16bbbbbb_0]) rfl ?_
              refine lv_iload_n hx hb dL_reads_19 rfl (lv_at hl 0 rfl) ?_
              refine lv_iconst (v := 1) hx hb dL_reads_20 (by decide) ?_
              refine lv_iadd hx hb dL_reads_21 ?_
              refine kt_ (v := 7) (by decide +kernel) ?_
              refine lv_icmp_eq (tgt := 29) hx hb dL_reads_22 (by decide) (fun c_28 => ?_) (fun c_28 => ?_)
              · rw [if_pos c_28] at hM
                refine lv_iinc (v := 7) (lv' := [(2, .int 7), (0, .ref a0), (1, .ref (ad 26))]) hx hb dL_reads_29 hl (k := 0) rfl (by decide +kernel) (by decide) rfl (fun ls hl => ?_)
                refine lv_goto (tgt := 2) hx hb dL_reads_32 (by decide) ?_
                refine lv_iload_n hx hb dL_reads_2 rfl (lv_at hl 0 rfl) ?_
                refine lv_aload_n hx hb dL_reads_3 rfl (lv_at hl 2 rfl) ?_
                refine kr_ (va_runV (As := []) (rest := [.int 7]) ⟨hx, hb, hml, hown, hts⟩ (c_J0_length_8abf5_ad26 l hl0 D ad H.size) (cwV 0 hts gL_reads_J0_length_8abf5 rfl rfl rfl (by decide +kernel) ⟨Nat.le_of_ble_eq_true rfl, Nat.le_of_ble_eq_true rfl⟩) ⟨PR_.blind, vk_recv (fxst_ hF) (i := 6) (by decide) hS, PR_.pre hF hK (hP.sub [] rfl) hS hA [] rfl⟩ rfl rfl hl.1 rfl (lv_room (Nat.le_of_ble_eq_true rfl)) dL_reads_4 ⟨(adc_r0 hM), (adc_s0 hM)⟩) hP hS hA (fun H locs hP hS => ?_)
                refine W.eq (g2 := F0 m 7 ls [.int 8, .int 7]) rfl ?_
                refine lv_icmp_ge (tgt := 35) hx hb dL_reads_7 (by decide) (fun c9 => absurd c9 (by decide +kernel)) (fun _ => ?_)
                refine lv_aload_n hx hb dL_reads_10 rfl (lv_at hl 1 rfl) ?_
                refine lv_aload_n hx hb dL_reads_11 rfl (lv_at hl 2 rfl) ?_
                refine lv_iload_n hx hb dL_reads_12 rfl (lv_at hl 0 rfl) ?_
                refine kr_ (va_runV (As := [.int 7]) (rest := [.ref a0]) ⟨hx, hb, hml, hown, hts⟩ (c_J0_charAt_5068e_7_ad26 l hl0 D ad H.size) (cwV 1 hts gL_reads_J0_charAt_5068e rfl rfl rfl (by decide +kernel) ⟨Nat.le_of_ble_eq_true rfl, Nat.le_of_ble_eq_true rfl⟩) ⟨PR_.blind, vk_recv (fxst_ hF) (i := 6) (by decide) hS, PR_.pre hF hK (hP.sub [] rfl) hS hA [] rfl⟩ rfl rfl hl.1 rfl (lv_room (Nat.le_of_ble_eq_true rfl)) dL_reads_13 ⟨(adc_r0 hM), (adc_s0 hM)⟩) hP hS hA (fun H locs hP hS => ?_)
                refine W.eq (g2 := F0 m 16 ls [.int 48, .ref a0]) rfl ?_
                have hcon := (bl_L_append l hl0 D ad H.size b_27 hBL_27 a0 hb9_27 y16bbbbbb_1 hM9_27 Bd hXI_27 (show Bd ≤ 900000 from (by have y0 := f_eq c_4; have y1 := f_eq c_8; have y2 := f_eq c_12; have y3 := f_eq c_16; have y4 := f_eq c_20; have y5 := f_eq c_24; have y6 := f_eq c_28; have z0 := hBd; have e_1 : (1 : Int32).toInt = 1 := (by decide +kernel); have e_2 : (2 : Int32).toInt = 2 := (by decide +kernel); have e_3 : (3 : Int32).toInt = 3 := (by decide +kernel); have e_4 : (4 : Int32).toInt = 4 := (by decide +kernel); have e_5 : (5 : Int32).toInt = 5 := (by decide +kernel); have e_6 : (6 : Int32).toInt = 6 := (by decide +kernel); have e_7 : (7 : Int32).toInt = 7 := (by decide +kernel); omega)) 48)
                generalize hy_31 : (F_L_append y16bbbbbb_1 48) = y9 at hcon hM
                obtain ⟨y16bbbbbbb_0, y16bbbbbbb_1, y16bbbbbbb_2, y16bbbbbbb_3⟩ := y9
                have hM : FF9 = (adc (((((((0 + y16_2) + y16b_2) + y16bb_2) + y16bbb_2) + y16bbbb_2) + y16bbbbb_2) + y16bbbbbb_2) (((((((0 + y16_3) + y16b_3) + y16bb_3) + y16bbb_3) + y16bbbb_3) + y16bbbbb_3) + y16bbbbbb_3) (adc y16bbbbbbb_2 y16bbbbbbb_3 (if y16bbbbbbb_0 = 8 then (K_L_reads_36_1 (F_L_commands y16bbbbbbb_1)) else ((-9999), y16bbbbbbb_1, 0, 0)))) := hM
                refine kwb_ [] [] (vx_runSW (As := [.ref a0, .int 48]) (rest := []) ⟨hx, hb, hml, hown, hts⟩ hcon (vx_cwSW 2 hts gL_reads_L_append rfl rfl rfl (by decide +kernel) ⟨Nat.le_of_ble_eq_true rfl, Nat.le_of_ble_eq_true rfl⟩) ⟨PC_.blind, lw_pre (X := []) (Y := []) hF hK hP hD hS hA⟩ rfl rfl hl.1 rfl (lv_room (Nat.le_of_ble_eq_true rfl)) dL_reads_16 ⟨(adc_r1 hM), (adc_s1 hM)⟩) hK hP hD hS hA (fun b_31 H locs hpo hP hD hK hS => ?_)
                have hM : FF9 = (adc ((((((((0 + y16_2) + y16b_2) + y16bb_2) + y16bbb_2) + y16bbbb_2) + y16bbbbb_2) + y16bbbbbb_2) + y16bbbbbbb_2) ((((((((0 + y16_3) + y16b_3) + y16bb_3) + y16bbb_3) + y16bbbb_3) + y16bbbbb_3) + y16bbbbbb_3) + y16bbbbbbb_3) (if y16bbbbbbb_0 = 8 then (K_L_reads_36_1 (F_L_commands y16bbbbbbb_1)) else ((-9999), y16bbbbbbb_1, 0, 0))) := hM.trans (adc_adc _ _ _ _ _)
                obtain ⟨hM9_31, hb9_31, hBL_31, hXI_31⟩ := hpo
                have hM9_31 : b_31.2.2.2 = y16bbbbbbb_1 := hM9_31
                have hXI_31 : XI Bd y16bbbbbbb_1 := hXI_31
                have hP : va_P D vwCl ([] ++ BWW ad b_31) H := hP
                have hD : va_D A ([] ++ BWW ad b_31) := hD
                have hK : va_K D vwCl ([] ++ BWT b_31) s := hK
                refine W.eq (g2 := F0 m 19 ls [.int y16bbbbbbb_0]) rfl ?_
                refine lv_iload_n hx hb dL_reads_19 rfl (lv_at hl 0 rfl) ?_
                refine lv_iconst (v := 1) hx hb dL_reads_20 (by decide) ?_
                refine lv_iadd hx hb dL_reads_21 ?_
                refine kt_ (v := 8) (by decide +kernel) ?_
                refine lv_icmp_eq (tgt := 29) hx hb dL_reads_22 (by decide) (fun c_32 => ?_) (fun c_32 => ?_)
                · rw [if_pos c_32] at hM
                  refine lv_iinc (v := 8) (lv' := [(2, .int 8), (0, .ref a0), (1, .ref (ad 26))]) hx hb dL_reads_29 hl (k := 0) rfl (by decide +kernel) (by decide) rfl (fun ls hl => ?_)
                  refine lv_goto (tgt := 2) hx hb dL_reads_32 (by decide) ?_
                  refine lv_iload_n hx hb dL_reads_2 rfl (lv_at hl 0 rfl) ?_
                  refine lv_aload_n hx hb dL_reads_3 rfl (lv_at hl 2 rfl) ?_
                  refine kr_ (va_runV (As := []) (rest := [.int 8]) ⟨hx, hb, hml, hown, hts⟩ (c_J0_length_8abf5_ad26 l hl0 D ad H.size) (cwV 0 hts gL_reads_J0_length_8abf5 rfl rfl rfl (by decide +kernel) ⟨Nat.le_of_ble_eq_true rfl, Nat.le_of_ble_eq_true rfl⟩) ⟨PR_.blind, vk_recv (fxst_ hF) (i := 6) (by decide) hS, PR_.pre hF hK (hP.sub [] rfl) hS hA [] rfl⟩ rfl rfl hl.1 rfl (lv_room (Nat.le_of_ble_eq_true rfl)) dL_reads_4 ⟨(adc_r0 hM), (adc_s0 hM)⟩) hP hS hA (fun H locs hP hS => ?_)
                  refine W.eq (g2 := F0 m 7 ls [.int 8, .int 8]) rfl ?_
                  refine lv_icmp_ge (tgt := 35) hx hb dL_reads_7 (by decide) (fun _ => ?_) (fun c9 => absurd (by decide +kernel) c9)
                  refine lv_aload_n hx hb dL_reads_35 rfl (lv_at hl 1 rfl) ?_
                  have hcon := (bl_L_commands l hl0 D ad H.size b_31 hBL_31 a0 hb9_31 y16bbbbbbb_1 hM9_31 Bd hXI_31 (show (Bd + 36600) ≤ 900000 from (by have y0 := f_eq c_4; have y1 := f_eq c_8; have y2 := f_eq c_12; have y3 := f_eq c_16; have y4 := f_eq c_20; have y5 := f_eq c_24; have y6 := f_eq c_28; have y7 := f_eq c_32; have z0 := hBd; have e_1 : (1 : Int32).toInt = 1 := (by decide +kernel); have e_2 : (2 : Int32).toInt = 2 := (by decide +kernel); have e_3 : (3 : Int32).toInt = 3 := (by decide +kernel); have e_4 : (4 : Int32).toInt = 4 := (by decide +kernel); have e_5 : (5 : Int32).toInt = 5 := (by decide +kernel); have e_6 : (6 : Int32).toInt = 6 := (by decide +kernel); have e_7 : (7 : Int32).toInt = 7 := (by decide +kernel); have e_8 : (8 : Int32).toInt = 8 := (by decide +kernel); omega)))
                  generalize hy_34 : (F_L_commands y16bbbbbbb_1) = y9 at hcon hM
                  obtain ⟨y36_0, y36_1, y36_2, y36_3⟩ := y9
                  have hM : FF9 = (adc ((((((((0 + y16_2) + y16b_2) + y16bb_2) + y16bbb_2) + y16bbbb_2) + y16bbbbb_2) + y16bbbbbb_2) + y16bbbbbbb_2) ((((((((0 + y16_3) + y16b_3) + y16bb_3) + y16bbb_3) + y16bbbb_3) + y16bbbbb_3) + y16bbbbbb_3) + y16bbbbbbb_3) (adc y36_2 y36_3 (y36_0, y36_1, 0, 0))) := hM
                  refine kwb_ [] [] (vx_runSW (As := [.ref a0]) (rest := []) ⟨hx, hb, hml, hown, hts⟩ hcon (vx_cwSW 1 hts gL_reads_L_commands rfl rfl rfl (by decide +kernel) ⟨Nat.le_of_ble_eq_true rfl, Nat.le_of_ble_eq_true rfl⟩) ⟨PC_.blind, lw_pre (X := []) (Y := []) hF hK hP hD hS hA⟩ rfl rfl hl.1 rfl (lv_room (Nat.le_of_ble_eq_true rfl)) dL_reads_36 ⟨(adc_r1 hM), (adc_s1 hM)⟩) hK hP hD hS hA (fun b_34 H locs hpo hP hD hK hS => ?_)
                  have hM : FF9 = (adc (((((((((0 + y16_2) + y16b_2) + y16bb_2) + y16bbb_2) + y16bbbb_2) + y16bbbbb_2) + y16bbbbbb_2) + y16bbbbbbb_2) + y36_2) (((((((((0 + y16_3) + y16b_3) + y16bb_3) + y16bbb_3) + y16bbbb_3) + y16bbbbb_3) + y16bbbbbb_3) + y16bbbbbbb_3) + y36_3) (y36_0, y36_1, 0, 0)) := hM.trans (adc_adc _ _ _ _ _)
                  obtain ⟨hM9_34, hb9_34, hBL_34, hXI_34⟩ := hpo
                  have hM9_34 : b_34.2.2.2 = y36_1 := hM9_34
                  have hXI_34 : XI (Bd + 36600) y36_1 := hXI_34
                  have hP : va_P D vwCl ([] ++ BWW ad b_34) H := hP
                  have hD : va_D A ([] ++ BWW ad b_34) := hD
                  have hK : va_K D vwCl ([] ++ BWT b_34) s := hK
                  refine W.eq (g2 := F0 m 39 ls [.int y36_0]) rfl ?_
                  refine W.widen (k := (FF9).2.2.1) (n := (FF9).2.2.2) (Nat.le_of_eq (by rw [hM]; first | done | rfl)) (Nat.le_of_eq (by rw [hM]; first | done | rfl)) ?_
                  exact W.iret (v := y36_0) hx hb hr (lw_ret (X := []) (Y := []) b_34 hP hD hK hS (by rw [hM]; first | done | rfl) ⟨(by rw [hM]; exact hM9_34), hb9_34, hBL_34, (by rw [hM]; exact XI.mono hXI_34 (show (Bd + 36600) ≤ Bd + 36600 from (by have y0 := f_eq c_4; have y1 := f_eq c_8; have y2 := f_eq c_12; have y3 := f_eq c_16; have y4 := f_eq c_20; have y5 := f_eq c_24; have y6 := f_eq c_28; have y7 := f_eq c_32; have z0 := hBd; have e_1 : (1 : Int32).toInt = 1 := (by decide +kernel); have e_2 : (2 : Int32).toInt = 2 := (by decide +kernel); have e_3 : (3 : Int32).toInt = 3 := (by decide +kernel); have e_4 : (4 : Int32).toInt = 4 := (by decide +kernel); have e_5 : (5 : Int32).toInt = 5 := (by decide +kernel); have e_6 : (6 : Int32).toInt = 6 := (by decide +kernel); have e_7 : (7 : Int32).toInt = 7 := (by decide +kernel); have e_8 : (8 : Int32).toInt = 8 := (by decide +kernel); omega)))⟩) hS.2.2 dL_reads_39
                · rw [if_neg c_32] at hM
                  refine lv_sipush (v := (-9999)) hx hb dL_reads_25 (by decide +kernel) ?_
                  refine W.widen (k := (FF9).2.2.1) (n := (FF9).2.2.2) (Nat.le_of_eq (by rw [hM]; first | done | rfl)) (Nat.le_of_eq (by rw [hM]; first | done | rfl)) ?_
                  exact W.iret (v := (-9999)) hx hb hr (lw_ret (X := []) (Y := []) b_31 hP hD hK hS (by rw [hM]; first | done | rfl) ⟨(by rw [hM]; exact hM9_31), hb9_31, hBL_31, (by rw [hM]; exact XI.mono hXI_31 (show Bd ≤ Bd + 36600 from (by have y0 := f_eq c_4; have y1 := f_eq c_8; have y2 := f_eq c_12; have y3 := f_eq c_16; have y4 := f_eq c_20; have y5 := f_eq c_24; have y6 := f_eq c_28; have y7 := f_neq c_32; have z0 := hBd; have e_1 : (1 : Int32).toInt = 1 := (by decide +kernel); have e_2 : (2 : Int32).toInt = 2 := (by decide +kernel); have e_3 : (3 : Int32).toInt = 3 := (by decide +kernel); have e_4 : (4 : Int32).toInt = 4 := (by decide +kernel); have e_5 : (5 : Int32).toInt = 5 := (by decide +kernel); have e_6 : (6 : Int32).toInt = 6 := (by decide +kernel); have e_7 : (7 : Int32).toInt = 7 := (by decide +kernel); have e_8 : (8 : Int32).toInt = 8 := (by decide +kernel); omega)))⟩) hS.2.2 dL_reads_28
              · rw [if_neg c_28] at hM
                refine lv_sipush (v := (-9999)) hx hb dL_reads_25 (by decide +kernel) ?_
                refine W.widen (k := (FF9).2.2.1) (n := (FF9).2.2.2) (Nat.le_of_eq (by rw [hM]; first | done | rfl)) (Nat.le_of_eq (by rw [hM]; first | done | rfl)) ?_
                exact W.iret (v := (-9999)) hx hb hr (lw_ret (X := []) (Y := []) b_27 hP hD hK hS (by rw [hM]; first | done | rfl) ⟨(by rw [hM]; exact hM9_27), hb9_27, hBL_27, (by rw [hM]; exact XI.mono hXI_27 (show Bd ≤ Bd + 36600 from (by have y0 := f_eq c_4; have y1 := f_eq c_8; have y2 := f_eq c_12; have y3 := f_eq c_16; have y4 := f_eq c_20; have y5 := f_eq c_24; have y6 := f_neq c_28; have z0 := hBd; have e_1 : (1 : Int32).toInt = 1 := (by decide +kernel); have e_2 : (2 : Int32).toInt = 2 := (by decide +kernel); have e_3 : (3 : Int32).toInt = 3 := (by decide +kernel); have e_4 : (4 : Int32).toInt = 4 := (by decide +kernel); have e_5 : (5 : Int32).toInt = 5 := (by decide +kernel); have e_6 : (6 : Int32).toInt = 6 := (by decide +kernel); have e_7 : (7 : Int32).toInt = 7 := (by decide +kernel); omega)))⟩) hS.2.2 dL_reads_28
            · rw [if_neg c_24] at hM
              refine lv_sipush (v := (-9999)) hx hb dL_reads_25 (by decide +kernel) ?_
              refine W.widen (k := (FF9).2.2.1) (n := (FF9).2.2.2) (Nat.le_of_eq (by rw [hM]; first | done | rfl)) (Nat.le_of_eq (by rw [hM]; first | done | rfl)) ?_
              exact W.iret (v := (-9999)) hx hb hr (lw_ret (X := []) (Y := []) b_23 hP hD hK hS (by rw [hM]; first | done | rfl) ⟨(by rw [hM]; exact hM9_23), hb9_23, hBL_23, (by rw [hM]; exact XI.mono hXI_23 (show Bd ≤ Bd + 36600 from (by have y0 := f_eq c_4; have y1 := f_eq c_8; have y2 := f_eq c_12; have y3 := f_eq c_16; have y4 := f_eq c_20; have y5 := f_neq c_24; have z0 := hBd; have e_1 : (1 : Int32).toInt = 1 := (by decide +kernel); have e_2 : (2 : Int32).toInt = 2 := (by decide +kernel); have e_3 : (3 : Int32).toInt = 3 := (by decide +kernel); have e_4 : (4 : Int32).toInt = 4 := (by decide +kernel); have e_5 : (5 : Int32).toInt = 5 := (by decide +kernel); have e_6 : (6 : Int32).toInt = 6 := (by decide +kernel); omega)))⟩) hS.2.2 dL_reads_28
          · rw [if_neg c_20] at hM
            refine lv_sipush (v := (-9999)) hx hb dL_reads_25 (by decide +kernel) ?_
            refine W.widen (k := (FF9).2.2.1) (n := (FF9).2.2.2) (Nat.le_of_eq (by rw [hM]; first | done | rfl)) (Nat.le_of_eq (by rw [hM]; first | done | rfl)) ?_
            exact W.iret (v := (-9999)) hx hb hr (lw_ret (X := []) (Y := []) b_19 hP hD hK hS (by rw [hM]; first | done | rfl) ⟨(by rw [hM]; exact hM9_19), hb9_19, hBL_19, (by rw [hM]; exact XI.mono hXI_19 (show Bd ≤ Bd + 36600 from (by have y0 := f_eq c_4; have y1 := f_eq c_8; have y2 := f_eq c_12; have y3 := f_eq c_16; have y4 := f_neq c_20; have z0 := hBd; have e_1 : (1 : Int32).toInt = 1 := (by decide +kernel); have e_2 : (2 : Int32).toInt = 2 := (by decide +kernel); have e_3 : (3 : Int32).toInt = 3 := (by decide +kernel); have e_4 : (4 : Int32).toInt = 4 := (by decide +kernel); have e_5 : (5 : Int32).toInt = 5 := (by decide +kernel); omega)))⟩) hS.2.2 dL_reads_28
        · rw [if_neg c_16] at hM
          refine lv_sipush (v := (-9999)) hx hb dL_reads_25 (by decide +kernel) ?_
          refine W.widen (k := (FF9).2.2.1) (n := (FF9).2.2.2) (Nat.le_of_eq (by rw [hM]; first | done | rfl)) (Nat.le_of_eq (by rw [hM]; first | done | rfl)) ?_
          exact W.iret (v := (-9999)) hx hb hr (lw_ret (X := []) (Y := []) b_15 hP hD hK hS (by rw [hM]; first | done | rfl) ⟨(by rw [hM]; exact hM9_15), hb9_15, hBL_15, (by rw [hM]; exact XI.mono hXI_15 (show Bd ≤ Bd + 36600 from (by have y0 := f_eq c_4; have y1 := f_eq c_8; have y2 := f_eq c_12; have y3 := f_neq c_16; have z0 := hBd; have e_1 : (1 : Int32).toInt = 1 := (by decide +kernel); have e_2 : (2 : Int32).toInt = 2 := (by decide +kernel); have e_3 : (3 : Int32).toInt = 3 := (by decide +kernel); have e_4 : (4 : Int32).toInt = 4 := (by decide +kernel); omega)))⟩) hS.2.2 dL_reads_28
      · rw [if_neg c_12] at hM
        refine lv_sipush (v := (-9999)) hx hb dL_reads_25 (by decide +kernel) ?_
        refine W.widen (k := (FF9).2.2.1) (n := (FF9).2.2.2) (Nat.le_of_eq (by rw [hM]; first | done | rfl)) (Nat.le_of_eq (by rw [hM]; first | done | rfl)) ?_
        exact W.iret (v := (-9999)) hx hb hr (lw_ret (X := []) (Y := []) b_11 hP hD hK hS (by rw [hM]; first | done | rfl) ⟨(by rw [hM]; exact hM9_11), hb9_11, hBL_11, (by rw [hM]; exact XI.mono hXI_11 (show Bd ≤ Bd + 36600 from (by have y0 := f_eq c_4; have y1 := f_eq c_8; have y2 := f_neq c_12; have z0 := hBd; have e_1 : (1 : Int32).toInt = 1 := (by decide +kernel); have e_2 : (2 : Int32).toInt = 2 := (by decide +kernel); have e_3 : (3 : Int32).toInt = 3 := (by decide +kernel); omega)))⟩) hS.2.2 dL_reads_28
    · rw [if_neg c_8] at hM
      refine lv_sipush (v := (-9999)) hx hb dL_reads_25 (by decide +kernel) ?_
      refine W.widen (k := (FF9).2.2.1) (n := (FF9).2.2.2) (Nat.le_of_eq (by rw [hM]; first | done | rfl)) (Nat.le_of_eq (by rw [hM]; first | done | rfl)) ?_
      exact W.iret (v := (-9999)) hx hb hr (lw_ret (X := []) (Y := []) b_7 hP hD hK hS (by rw [hM]; first | done | rfl) ⟨(by rw [hM]; exact hM9_7), hb9_7, hBL_7, (by rw [hM]; exact XI.mono hXI_7 (show Bd ≤ Bd + 36600 from (by have y0 := f_eq c_4; have y1 := f_neq c_8; have z0 := hBd; have e_1 : (1 : Int32).toInt = 1 := (by decide +kernel); have e_2 : (2 : Int32).toInt = 2 := (by decide +kernel); omega)))⟩) hS.2.2 dL_reads_28
  · rw [if_neg c_4] at hM
    refine lv_sipush (v := (-9999)) hx hb dL_reads_25 (by decide +kernel) ?_
    refine W.widen (k := (FF9).2.2.1) (n := (FF9).2.2.2) (Nat.le_of_eq (by rw [hM]; first | done | rfl)) (Nat.le_of_eq (by rw [hM]; first | done | rfl)) ?_
    exact W.iret (v := (-9999)) hx hb hr (lw_ret (X := []) (Y := []) b_3 hP hD hK hS (by rw [hM]; first | done | rfl) ⟨(by rw [hM]; exact hM9_3), hb9_3, hBL_3, (by rw [hM]; exact XI.mono hXI_3 (show Bd ≤ Bd + 36600 from (by have y0 := f_neq c_4; have z0 := hBd; have e_1 : (1 : Int32).toInt = 1 := (by decide +kernel); omega)))⟩) hS.2.2 dL_reads_28
def F_J0_coder_7d493_ad27  : Int32 := 0
set_option maxHeartbeats 4000000 in
set_option maxRecDepth 100000 in
theorem c_J0_coder_7d493_ad27 (l : Launch) (hl0 : l.stackTraces = false) (D : va_G) (ad : Nat → Nat) (sz : Nat)  : Met l yJ0_coder_7d493 wsJ0_coder_7d493 ({ frames := 0, cells := 0, slots := 0, locals := 0 }) (PR_ D ad [] [] sz [.ref (ad 27)]) (QR_ (.int (F_J0_coder_7d493_ad27)) (va_A [] sz)) 0 0 (va_A [] sz) := by
  refine Met.ofW (cc := cJ0_coder_7d493) (maxL := 1) (ret := (some .byte)) (by decide) rfl ?_
  intro p e s m args below meth c s₁ B hml hv
  obtain ⟨rfl, hsz, hP, hK, hF⟩ := hv
  have hx := B.exec
  have hb := B.bytes
  have hr := B.returns
  have hts := atoms_spec (ws := wsJ0_coder_7d493) B.pre
  have hown : s.vm.findClass RJ0 = some m.cls := findClass_of_methodNamed B.named
  have hlocks := B.notSynchronized
  subst hsz
  generalize hAe : va_A [] s.heap.size = A at hF ⊢
  have hA : ∀ q : Nat, s.heap.size ≤ q → A q := fun q h => by rw [← hAe]; exact Or.inr h
  obtain ⟨H, hHe⟩ : ∃ H : Heap, H = s.heap := ⟨_, rfl⟩
  have hS : va_S A s.heap H [] := by rw [hHe]; exact va_S.rf
  have hP : va_P D vwCl [] H := by rw [hHe]; exact hP
  rw [← hHe]
  have hl := lv_entry [.ref (ad 27)] (n := 1) (Nat.le_of_ble_eq_true rfl)
  rw [lg_entry_eq]
  generalize (lg_sl [.ref (ad 27)] ++ List.replicate (1 - (lg_sl [.ref (ad 27)]).length) Slot.unset).toArray = ls at hl ⊢
  have hl : lv_has ls 1 [(0, .ref (ad 27))] := hl
  have hM : F_J0_coder_7d493_ad27 = 0 := rfl
  refine va_gets (C := "java/lang/String") (n := "COMPACT_STRINGS") (d := "Z") (own := RJ0) (ref := "java/lang/String") (v := .int 1) hx hb hF.2.2.2.1 hS hown (hts (.fieldLink RJ0 38 "java/lang/String" "COMPACT_STRINGS" "Z") (List.mem_of_getElem? (i := 1) (by decide +kernel))) (fun _ h9 => h9) dJ0_coder_7d493_0 ?_
  refine lv_if_eq (tgt := 13) hx hb dJ0_coder_7d493_3 (by decide) (fun c9 => absurd c9 (by decide +kernel)) (fun _ => ?_)
  refine lv_aload_n hx hb dJ0_coder_7d493_6 rfl (lv_at hl 0 rfl) ?_
  refine vk_getf (o := "java/lang/String") (n := "coder") (d := "B") (q := ad 27) (v := .int 0) hx hb ((fxst_ hF).1 7 (by decide)).2.1 hS hown (hts (.fieldLink RJ0 15 "java/lang/String" "coder" "B") (List.mem_of_getElem? (i := 2) (by decide +kernel))) (fun _ h9 => h9) dJ0_coder_7d493_7 ?_
  refine lv_goto (tgt := 14) hx hb dJ0_coder_7d493_10 (by decide) ?_
  refine W.widen (k := 0) (n := 0) (Nat.le_of_ble_eq_true rfl) (Nat.le_of_ble_eq_true rfl) ?_
  exact W.zret (v := 0) hx hb hr rfl (QR_.mk hS (by rw [hM])) hS.2.2 dJ0_coder_7d493_14
def F_J0_length_8abf5_ad27  : Int32 := 8
set_option maxHeartbeats 4000000 in
set_option maxRecDepth 100000 in
theorem c_J0_length_8abf5_ad27 (l : Launch) (hl0 : l.stackTraces = false) (D : va_G) (ad : Nat → Nat) (sz : Nat)  : Met l yJ0_length_8abf5 wsJ0_length_8abf5 ({ frames := 1, cells := 0, slots := 0, locals := 22 }) (PR_ D ad [] [] sz [.ref (ad 27)]) (QR_ (.int (F_J0_length_8abf5_ad27)) (va_A [] sz)) 0 0 (va_A [] sz) := by
  refine Met.ofW (cc := cJ0_length_8abf5) (maxL := 1) (ret := (some .int)) (by decide) rfl ?_
  intro p e s m args below meth c s₁ B hml hv
  obtain ⟨rfl, hsz, hP, hK, hF⟩ := hv
  have hx := B.exec
  have hb := B.bytes
  have hr := B.returns
  have hts := atoms_spec (ws := wsJ0_length_8abf5) B.pre
  have hown : s.vm.findClass RJ0 = some m.cls := findClass_of_methodNamed B.named
  have hlocks := B.notSynchronized
  subst hsz
  generalize hAe : va_A [] s.heap.size = A at hF ⊢
  have hA : ∀ q : Nat, s.heap.size ≤ q → A q := fun q h => by rw [← hAe]; exact Or.inr h
  obtain ⟨H, hHe⟩ : ∃ H : Heap, H = s.heap := ⟨_, rfl⟩
  have hS : va_S A s.heap H [] := by rw [hHe]; exact va_S.rf
  have hP : va_P D vwCl [] H := by rw [hHe]; exact hP
  rw [← hHe]
  have hl := lv_entry [.ref (ad 27)] (n := 1) (Nat.le_of_ble_eq_true rfl)
  rw [lg_entry_eq]
  generalize (lg_sl [.ref (ad 27)] ++ List.replicate (1 - (lg_sl [.ref (ad 27)]).length) Slot.unset).toArray = ls at hl ⊢
  have hl : lv_has ls 1 [(0, .ref (ad 27))] := hl
  have hM : F_J0_length_8abf5_ad27 = 8 := rfl
  refine lv_aload_n hx hb dJ0_length_8abf5_0 rfl (lv_at hl 0 rfl) ?_
  refine vk_getf (o := "java/lang/String") (n := "value") (d := "[B") (q := ad 27) (v := .ref (ad 47)) hx hb ((fxst_ hF).1 7 (by decide)).2.2.1 hS hown (hts (.fieldLink RJ0 9 "java/lang/String" "value" "[B") (List.mem_of_getElem? (i := 1) (by decide +kernel))) (fun _ h9 => h9) dJ0_length_8abf5_1 ?_
  refine va_tlen (v := 8) hx hb ((fxst_ hF).1 7 (by decide)).2.2.2 hS rfl dJ0_length_8abf5_4 ?_
  refine lv_aload_n hx hb dJ0_length_8abf5_5 rfl (lv_at hl 0 rfl) ?_
  refine kr_ (va_runV (As := []) (rest := [.int 8]) ⟨hx, hb, hml, hown, hts⟩ (c_J0_coder_7d493_ad27 l hl0 D ad H.size) (cwV 0 hts gJ0_length_8abf5_J0_coder_7d493 rfl rfl rfl (by decide +kernel) ⟨Nat.le_of_ble_eq_true rfl, Nat.le_of_ble_eq_true rfl⟩) ⟨PR_.blind, vk_recv (fxst_ hF) (i := 7) (by decide) hS, PR_.pre hF hK (hP.sub [] rfl) hS hA [] rfl⟩ rfl rfl hl.1 rfl (lv_room (Nat.le_of_ble_eq_true rfl)) dJ0_length_8abf5_6 ⟨(Nat.le_of_ble_eq_true rfl), (Nat.le_of_ble_eq_true rfl)⟩) hP hS hA (fun H locs hP hS => ?_)
  refine W.eq (g2 := F0 m 9 ls [.int 0, .int 8]) rfl ?_
  refine lv_ishr hx hb dJ0_length_8abf5_9 ?_
  refine kt_ (v := 8) (by decide +kernel) ?_
  refine W.widen (k := 0) (n := 0) (Nat.le_of_ble_eq_true rfl) (Nat.le_of_ble_eq_true rfl) ?_
  exact W.iret (v := 8) hx hb hr (QR_.mk hS (by rw [hM])) hS.2.2 dJ0_length_8abf5_10
def F_J0_isLatin1_aae02_ad27  : Int32 := 1
set_option maxHeartbeats 4000000 in
set_option maxRecDepth 100000 in
theorem c_J0_isLatin1_aae02_ad27 (l : Launch) (hl0 : l.stackTraces = false) (D : va_G) (ad : Nat → Nat) (sz : Nat)  : Met l yJ0_isLatin1_aae02 wsJ0_isLatin1_aae02 ({ frames := 0, cells := 0, slots := 0, locals := 0 }) (PR_ D ad [] [] sz [.ref (ad 27)]) (QR_ (.int (F_J0_isLatin1_aae02_ad27)) (va_A [] sz)) 0 0 (va_A [] sz) := by
  refine Met.ofW (cc := cJ0_isLatin1_aae02) (maxL := 1) (ret := (some .boolean)) (by decide) rfl ?_
  intro p e s m args below meth c s₁ B hml hv
  obtain ⟨rfl, hsz, hP, hK, hF⟩ := hv
  have hx := B.exec
  have hb := B.bytes
  have hr := B.returns
  have hts := atoms_spec (ws := wsJ0_isLatin1_aae02) B.pre
  have hown : s.vm.findClass RJ0 = some m.cls := findClass_of_methodNamed B.named
  have hlocks := B.notSynchronized
  subst hsz
  generalize hAe : va_A [] s.heap.size = A at hF ⊢
  have hA : ∀ q : Nat, s.heap.size ≤ q → A q := fun q h => by rw [← hAe]; exact Or.inr h
  obtain ⟨H, hHe⟩ : ∃ H : Heap, H = s.heap := ⟨_, rfl⟩
  have hS : va_S A s.heap H [] := by rw [hHe]; exact va_S.rf
  have hP : va_P D vwCl [] H := by rw [hHe]; exact hP
  rw [← hHe]
  have hl := lv_entry [.ref (ad 27)] (n := 1) (Nat.le_of_ble_eq_true rfl)
  rw [lg_entry_eq]
  generalize (lg_sl [.ref (ad 27)] ++ List.replicate (1 - (lg_sl [.ref (ad 27)]).length) Slot.unset).toArray = ls at hl ⊢
  have hl : lv_has ls 1 [(0, .ref (ad 27))] := hl
  have hM : F_J0_isLatin1_aae02_ad27 = 1 := rfl
  refine va_gets (C := "java/lang/String") (n := "COMPACT_STRINGS") (d := "Z") (own := RJ0) (ref := "java/lang/String") (v := .int 1) hx hb hF.2.2.2.1 hS hown (hts (.fieldLink RJ0 38 "java/lang/String" "COMPACT_STRINGS" "Z") (List.mem_of_getElem? (i := 1) (by decide +kernel))) (fun _ h9 => h9) dJ0_isLatin1_aae02_0 ?_
  refine lv_if_eq (tgt := 17) hx hb dJ0_isLatin1_aae02_3 (by decide) (fun c9 => absurd c9 (by decide +kernel)) (fun _ => ?_)
  refine lv_aload_n hx hb dJ0_isLatin1_aae02_6 rfl (lv_at hl 0 rfl) ?_
  refine vk_getf (o := "java/lang/String") (n := "coder") (d := "B") (q := ad 27) (v := .int 0) hx hb ((fxst_ hF).1 7 (by decide)).2.1 hS hown (hts (.fieldLink RJ0 15 "java/lang/String" "coder" "B") (List.mem_of_getElem? (i := 2) (by decide +kernel))) (fun _ h9 => h9) dJ0_isLatin1_aae02_7 ?_
  refine lv_if_ne (tgt := 17) hx hb dJ0_isLatin1_aae02_10 (by decide) (fun c9 => absurd (by decide +kernel) c9) (fun _ => ?_)
  refine lv_iconst (v := 1) hx hb dJ0_isLatin1_aae02_13 (by decide) ?_
  refine lv_goto (tgt := 18) hx hb dJ0_isLatin1_aae02_14 (by decide) ?_
  refine W.widen (k := 0) (n := 0) (Nat.le_of_ble_eq_true rfl) (Nat.le_of_ble_eq_true rfl) ?_
  exact W.zret (v := 1) hx hb hr rfl (QR_.mk hS (by rw [hM])) hS.2.2 dJ0_isLatin1_aae02_18
def F_J1_charAt_3b067_0_ad47  : Int32 := 116
set_option maxHeartbeats 4000000 in
set_option maxRecDepth 100000 in
theorem c_J1_charAt_3b067_0_ad47 (l : Launch) (hl0 : l.stackTraces = false) (D : va_G) (ad : Nat → Nat) (sz : Nat)  : Met l yJ1_charAt_3b067 wsJ1_charAt_3b067 ({ frames := 2, cells := 0, slots := 0, locals := 47 }) (PR_ D ad [] [] sz [.ref (ad 47), .int 0]) (QR_ (.int (F_J1_charAt_3b067_0_ad47)) (va_A [] sz)) 0 0 (va_A [] sz) := by
  refine Met.ofW (cc := cJ1_charAt_3b067) (maxL := 2) (ret := (some .char)) (by decide) rfl ?_
  intro p e s m args below meth c s₁ B hml hv
  obtain ⟨rfl, hsz, hP, hK, hF⟩ := hv
  have hx := B.exec
  have hb := B.bytes
  have hr := B.returns
  have hts := atoms_spec (ws := wsJ1_charAt_3b067) B.pre
  have hown : s.vm.findClass RJ1 = some m.cls := findClass_of_methodNamed B.named
  have hlocks := B.notSynchronized
  subst hsz
  generalize hAe : va_A [] s.heap.size = A at hF ⊢
  have hA : ∀ q : Nat, s.heap.size ≤ q → A q := fun q h => by rw [← hAe]; exact Or.inr h
  obtain ⟨H, hHe⟩ : ∃ H : Heap, H = s.heap := ⟨_, rfl⟩
  have hS : va_S A s.heap H [] := by rw [hHe]; exact va_S.rf
  have hP : va_P D vwCl [] H := by rw [hHe]; exact hP
  rw [← hHe]
  have hl := lv_entry [.ref (ad 47), .int 0] (n := 2) (Nat.le_of_ble_eq_true rfl)
  rw [lg_entry_eq]
  generalize (lg_sl [.ref (ad 47), .int 0] ++ List.replicate (2 - (lg_sl [.ref (ad 47), .int 0]).length) Slot.unset).toArray = ls at hl ⊢
  have hl : lv_has ls 2 [(0, .ref (ad 47)), (1, .int 0)] := hl
  have hM : F_J1_charAt_3b067_0_ad47 = 116 := rfl
  refine lv_iload_n hx hb dJ1_charAt_3b067_0 rfl (lv_at hl 1 rfl) ?_
  refine lv_aload_n hx hb dJ1_charAt_3b067_1 rfl (lv_at hl 0 rfl) ?_
  refine va_tlen (v := 8) hx hb ((fxst_ hF).1 7 (by decide)).2.2.2 hS rfl dJ1_charAt_3b067_2 ?_
  refine krv_ (va_runS (As := [.int 0, .int 8]) (rest := []) ⟨hx, hb, hml, hown, hts⟩ (c_J0_checkIndex_df160 l hl0 D ad H.size 0 8 (by decide +kernel) (by decide +kernel)) (va_cwS 2 hts gJ1_charAt_3b067_J0_checkIndex_df160 rfl rfl rfl (by decide +kernel) ⟨Nat.le_of_ble_eq_true rfl, Nat.le_of_ble_eq_true rfl⟩) ⟨PR_.blind, PR_.pre hF hK (hP.sub [] rfl) hS hA [] rfl⟩ rfl rfl hl.1 rfl (lv_room (Nat.le_of_ble_eq_true rfl)) dJ1_charAt_3b067_3 ⟨(Nat.le_of_ble_eq_true rfl), (Nat.le_of_ble_eq_true rfl)⟩) hP hS hA (fun H locs hP hS => ?_)
  refine W.eq (g2 := F0 m 6 ls []) rfl ?_
  refine lv_aload_n hx hb dJ1_charAt_3b067_6 rfl (lv_at hl 0 rfl) ?_
  refine lv_iload_n hx hb dJ1_charAt_3b067_7 rfl (lv_at hl 1 rfl) ?_
  refine va_tb (v := .int 116) hx hb ((fxst_ hF).1 7 (by decide)).2.2.2 hS (vin_ (by decide +kernel)) rfl dJ1_charAt_3b067_8 ?_
  refine lv_sipush (v := 255) hx hb dJ1_charAt_3b067_9 (by decide +kernel) ?_
  refine lv_iand hx hb dJ1_charAt_3b067_12 ?_
  refine kt_ (v := 116) (by decide +kernel) ?_
  refine lv_i2c (v := 116) hx hb dJ1_charAt_3b067_13 (by decide +kernel) ?_
  refine W.widen (k := 0) (n := 0) (Nat.le_of_ble_eq_true rfl) (Nat.le_of_ble_eq_true rfl) ?_
  exact W.zret (v := 116) hx hb hr rfl (QR_.mk hS (by rw [hM])) hS.2.2 dJ1_charAt_3b067_14
def F_J0_charAt_5068e_0_ad27  : Int32 := 116
set_option maxHeartbeats 4000000 in
set_option maxRecDepth 100000 in
theorem c_J0_charAt_5068e_0_ad27 (l : Launch) (hl0 : l.stackTraces = false) (D : va_G) (ad : Nat → Nat) (sz : Nat)  : Met l yJ0_charAt_5068e wsJ0_charAt_5068e ({ frames := 3, cells := 0, slots := 0, locals := 70 }) (PR_ D ad [] [] sz [.ref (ad 27), .int 0]) (QR_ (.int (F_J0_charAt_5068e_0_ad27)) (va_A [] sz)) 0 0 (va_A [] sz) := by
  refine Met.ofW (cc := cJ0_charAt_5068e) (maxL := 2) (ret := (some .char)) (by decide) rfl ?_
  intro p e s m args below meth c s₁ B hml hv
  obtain ⟨rfl, hsz, hP, hK, hF⟩ := hv
  have hx := B.exec
  have hb := B.bytes
  have hr := B.returns
  have hts := atoms_spec (ws := wsJ0_charAt_5068e) B.pre
  have hown : s.vm.findClass RJ0 = some m.cls := findClass_of_methodNamed B.named
  have hlocks := B.notSynchronized
  subst hsz
  generalize hAe : va_A [] s.heap.size = A at hF ⊢
  have hA : ∀ q : Nat, s.heap.size ≤ q → A q := fun q h => by rw [← hAe]; exact Or.inr h
  obtain ⟨H, hHe⟩ : ∃ H : Heap, H = s.heap := ⟨_, rfl⟩
  have hS : va_S A s.heap H [] := by rw [hHe]; exact va_S.rf
  have hP : va_P D vwCl [] H := by rw [hHe]; exact hP
  rw [← hHe]
  have hl := lv_entry [.ref (ad 27), .int 0] (n := 2) (Nat.le_of_ble_eq_true rfl)
  rw [lg_entry_eq]
  generalize (lg_sl [.ref (ad 27), .int 0] ++ List.replicate (2 - (lg_sl [.ref (ad 27), .int 0]).length) Slot.unset).toArray = ls at hl ⊢
  have hl : lv_has ls 2 [(0, .ref (ad 27)), (1, .int 0)] := hl
  have hM : F_J0_charAt_5068e_0_ad27 = 116 := rfl
  refine lv_aload_n hx hb dJ0_charAt_5068e_0 rfl (lv_at hl 0 rfl) ?_
  refine kr_ (va_runV (As := []) (rest := []) ⟨hx, hb, hml, hown, hts⟩ (c_J0_isLatin1_aae02_ad27 l hl0 D ad H.size) (cwV 0 hts gJ0_charAt_5068e_J0_isLatin1_aae02 rfl rfl rfl (by decide +kernel) ⟨Nat.le_of_ble_eq_true rfl, Nat.le_of_ble_eq_true rfl⟩) ⟨PR_.blind, vk_recv (fxst_ hF) (i := 7) (by decide) hS, PR_.pre hF hK (hP.sub [] rfl) hS hA [] rfl⟩ rfl rfl hl.1 rfl (lv_room (Nat.le_of_ble_eq_true rfl)) dJ0_charAt_5068e_1 ⟨(Nat.le_of_ble_eq_true rfl), (Nat.le_of_ble_eq_true rfl)⟩) hP hS hA (fun H locs hP hS => ?_)
  refine W.eq (g2 := F0 m 4 ls [.int 1]) rfl ?_
  refine lv_if_eq (tgt := 16) hx hb dJ0_charAt_5068e_4 (by decide) (fun c9 => absurd c9 (by decide +kernel)) (fun _ => ?_)
  refine lv_aload_n hx hb dJ0_charAt_5068e_7 rfl (lv_at hl 0 rfl) ?_
  refine vk_getf (o := "java/lang/String") (n := "value") (d := "[B") (q := ad 27) (v := .ref (ad 47)) hx hb ((fxst_ hF).1 7 (by decide)).2.2.1 hS hown (hts (.fieldLink RJ0 9 "java/lang/String" "value" "[B") (List.mem_of_getElem? (i := 1) (by decide +kernel))) (fun _ h9 => h9) dJ0_charAt_5068e_8 ?_
  refine lv_iload_n hx hb dJ0_charAt_5068e_11 rfl (lv_at hl 1 rfl) ?_
  refine kr_ (va_runS (As := [.ref (ad 47), .int 0]) (rest := []) ⟨hx, hb, hml, hown, hts⟩ (c_J1_charAt_3b067_0_ad47 l hl0 D ad H.size) (va_cwS 2 hts gJ0_charAt_5068e_J1_charAt_3b067 rfl rfl rfl (by decide +kernel) ⟨Nat.le_of_ble_eq_true rfl, Nat.le_of_ble_eq_true rfl⟩) ⟨PR_.blind, PR_.pre hF hK (hP.sub [] rfl) hS hA [] rfl⟩ rfl rfl hl.1 rfl (lv_room (Nat.le_of_ble_eq_true rfl)) dJ0_charAt_5068e_12 ⟨(Nat.le_of_ble_eq_true rfl), (Nat.le_of_ble_eq_true rfl)⟩) hP hS hA (fun H locs hP hS => ?_)
  refine W.eq (g2 := F0 m 15 ls [.int 116]) rfl ?_
  refine W.widen (k := 0) (n := 0) (Nat.le_of_ble_eq_true rfl) (Nat.le_of_ble_eq_true rfl) ?_
  exact W.zret (v := 116) hx hb hr rfl (QR_.mk hS (by rw [hM])) hS.2.2 dJ0_charAt_5068e_15
def F_J1_charAt_3b067_1_ad47  : Int32 := 51
set_option maxHeartbeats 4000000 in
set_option maxRecDepth 100000 in
theorem c_J1_charAt_3b067_1_ad47 (l : Launch) (hl0 : l.stackTraces = false) (D : va_G) (ad : Nat → Nat) (sz : Nat)  : Met l yJ1_charAt_3b067 wsJ1_charAt_3b067 ({ frames := 2, cells := 0, slots := 0, locals := 47 }) (PR_ D ad [] [] sz [.ref (ad 47), .int 1]) (QR_ (.int (F_J1_charAt_3b067_1_ad47)) (va_A [] sz)) 0 0 (va_A [] sz) := by
  refine Met.ofW (cc := cJ1_charAt_3b067) (maxL := 2) (ret := (some .char)) (by decide) rfl ?_
  intro p e s m args below meth c s₁ B hml hv
  obtain ⟨rfl, hsz, hP, hK, hF⟩ := hv
  have hx := B.exec
  have hb := B.bytes
  have hr := B.returns
  have hts := atoms_spec (ws := wsJ1_charAt_3b067) B.pre
  have hown : s.vm.findClass RJ1 = some m.cls := findClass_of_methodNamed B.named
  have hlocks := B.notSynchronized
  subst hsz
  generalize hAe : va_A [] s.heap.size = A at hF ⊢
  have hA : ∀ q : Nat, s.heap.size ≤ q → A q := fun q h => by rw [← hAe]; exact Or.inr h
  obtain ⟨H, hHe⟩ : ∃ H : Heap, H = s.heap := ⟨_, rfl⟩
  have hS : va_S A s.heap H [] := by rw [hHe]; exact va_S.rf
  have hP : va_P D vwCl [] H := by rw [hHe]; exact hP
  rw [← hHe]
  have hl := lv_entry [.ref (ad 47), .int 1] (n := 2) (Nat.le_of_ble_eq_true rfl)
  rw [lg_entry_eq]
  generalize (lg_sl [.ref (ad 47), .int 1] ++ List.replicate (2 - (lg_sl [.ref (ad 47), .int 1]).length) Slot.unset).toArray = ls at hl ⊢
  have hl : lv_has ls 2 [(0, .ref (ad 47)), (1, .int 1)] := hl
  have hM : F_J1_charAt_3b067_1_ad47 = 51 := rfl
  refine lv_iload_n hx hb dJ1_charAt_3b067_0 rfl (lv_at hl 1 rfl) ?_
  refine lv_aload_n hx hb dJ1_charAt_3b067_1 rfl (lv_at hl 0 rfl) ?_
  refine va_tlen (v := 8) hx hb ((fxst_ hF).1 7 (by decide)).2.2.2 hS rfl dJ1_charAt_3b067_2 ?_
  refine krv_ (va_runS (As := [.int 1, .int 8]) (rest := []) ⟨hx, hb, hml, hown, hts⟩ (c_J0_checkIndex_df160 l hl0 D ad H.size 1 8 (by decide +kernel) (by decide +kernel)) (va_cwS 2 hts gJ1_charAt_3b067_J0_checkIndex_df160 rfl rfl rfl (by decide +kernel) ⟨Nat.le_of_ble_eq_true rfl, Nat.le_of_ble_eq_true rfl⟩) ⟨PR_.blind, PR_.pre hF hK (hP.sub [] rfl) hS hA [] rfl⟩ rfl rfl hl.1 rfl (lv_room (Nat.le_of_ble_eq_true rfl)) dJ1_charAt_3b067_3 ⟨(Nat.le_of_ble_eq_true rfl), (Nat.le_of_ble_eq_true rfl)⟩) hP hS hA (fun H locs hP hS => ?_)
  refine W.eq (g2 := F0 m 6 ls []) rfl ?_
  refine lv_aload_n hx hb dJ1_charAt_3b067_6 rfl (lv_at hl 0 rfl) ?_
  refine lv_iload_n hx hb dJ1_charAt_3b067_7 rfl (lv_at hl 1 rfl) ?_
  refine va_tb (v := .int 51) hx hb ((fxst_ hF).1 7 (by decide)).2.2.2 hS (vin_ (by decide +kernel)) rfl dJ1_charAt_3b067_8 ?_
  refine lv_sipush (v := 255) hx hb dJ1_charAt_3b067_9 (by decide +kernel) ?_
  refine lv_iand hx hb dJ1_charAt_3b067_12 ?_
  refine kt_ (v := 51) (by decide +kernel) ?_
  refine lv_i2c (v := 51) hx hb dJ1_charAt_3b067_13 (by decide +kernel) ?_
  refine W.widen (k := 0) (n := 0) (Nat.le_of_ble_eq_true rfl) (Nat.le_of_ble_eq_true rfl) ?_
  exact W.zret (v := 51) hx hb hr rfl (QR_.mk hS (by rw [hM])) hS.2.2 dJ1_charAt_3b067_14
def F_J0_charAt_5068e_1_ad27  : Int32 := 51
set_option maxHeartbeats 4000000 in
set_option maxRecDepth 100000 in
theorem c_J0_charAt_5068e_1_ad27 (l : Launch) (hl0 : l.stackTraces = false) (D : va_G) (ad : Nat → Nat) (sz : Nat)  : Met l yJ0_charAt_5068e wsJ0_charAt_5068e ({ frames := 3, cells := 0, slots := 0, locals := 70 }) (PR_ D ad [] [] sz [.ref (ad 27), .int 1]) (QR_ (.int (F_J0_charAt_5068e_1_ad27)) (va_A [] sz)) 0 0 (va_A [] sz) := by
  refine Met.ofW (cc := cJ0_charAt_5068e) (maxL := 2) (ret := (some .char)) (by decide) rfl ?_
  intro p e s m args below meth c s₁ B hml hv
  obtain ⟨rfl, hsz, hP, hK, hF⟩ := hv
  have hx := B.exec
  have hb := B.bytes
  have hr := B.returns
  have hts := atoms_spec (ws := wsJ0_charAt_5068e) B.pre
  have hown : s.vm.findClass RJ0 = some m.cls := findClass_of_methodNamed B.named
  have hlocks := B.notSynchronized
  subst hsz
  generalize hAe : va_A [] s.heap.size = A at hF ⊢
  have hA : ∀ q : Nat, s.heap.size ≤ q → A q := fun q h => by rw [← hAe]; exact Or.inr h
  obtain ⟨H, hHe⟩ : ∃ H : Heap, H = s.heap := ⟨_, rfl⟩
  have hS : va_S A s.heap H [] := by rw [hHe]; exact va_S.rf
  have hP : va_P D vwCl [] H := by rw [hHe]; exact hP
  rw [← hHe]
  have hl := lv_entry [.ref (ad 27), .int 1] (n := 2) (Nat.le_of_ble_eq_true rfl)
  rw [lg_entry_eq]
  generalize (lg_sl [.ref (ad 27), .int 1] ++ List.replicate (2 - (lg_sl [.ref (ad 27), .int 1]).length) Slot.unset).toArray = ls at hl ⊢
  have hl : lv_has ls 2 [(0, .ref (ad 27)), (1, .int 1)] := hl
  have hM : F_J0_charAt_5068e_1_ad27 = 51 := rfl
  refine lv_aload_n hx hb dJ0_charAt_5068e_0 rfl (lv_at hl 0 rfl) ?_
  refine kr_ (va_runV (As := []) (rest := []) ⟨hx, hb, hml, hown, hts⟩ (c_J0_isLatin1_aae02_ad27 l hl0 D ad H.size) (cwV 0 hts gJ0_charAt_5068e_J0_isLatin1_aae02 rfl rfl rfl (by decide +kernel) ⟨Nat.le_of_ble_eq_true rfl, Nat.le_of_ble_eq_true rfl⟩) ⟨PR_.blind, vk_recv (fxst_ hF) (i := 7) (by decide) hS, PR_.pre hF hK (hP.sub [] rfl) hS hA [] rfl⟩ rfl rfl hl.1 rfl (lv_room (Nat.le_of_ble_eq_true rfl)) dJ0_charAt_5068e_1 ⟨(Nat.le_of_ble_eq_true rfl), (Nat.le_of_ble_eq_true rfl)⟩) hP hS hA (fun H locs hP hS => ?_)
  refine W.eq (g2 := F0 m 4 ls [.int 1]) rfl ?_
  refine lv_if_eq (tgt := 16) hx hb dJ0_charAt_5068e_4 (by decide) (fun c9 => absurd c9 (by decide +kernel)) (fun _ => ?_)
  refine lv_aload_n hx hb dJ0_charAt_5068e_7 rfl (lv_at hl 0 rfl) ?_
  refine vk_getf (o := "java/lang/String") (n := "value") (d := "[B") (q := ad 27) (v := .ref (ad 47)) hx hb ((fxst_ hF).1 7 (by decide)).2.2.1 hS hown (hts (.fieldLink RJ0 9 "java/lang/String" "value" "[B") (List.mem_of_getElem? (i := 1) (by decide +kernel))) (fun _ h9 => h9) dJ0_charAt_5068e_8 ?_
  refine lv_iload_n hx hb dJ0_charAt_5068e_11 rfl (lv_at hl 1 rfl) ?_
  refine kr_ (va_runS (As := [.ref (ad 47), .int 1]) (rest := []) ⟨hx, hb, hml, hown, hts⟩ (c_J1_charAt_3b067_1_ad47 l hl0 D ad H.size) (va_cwS 2 hts gJ0_charAt_5068e_J1_charAt_3b067 rfl rfl rfl (by decide +kernel) ⟨Nat.le_of_ble_eq_true rfl, Nat.le_of_ble_eq_true rfl⟩) ⟨PR_.blind, PR_.pre hF hK (hP.sub [] rfl) hS hA [] rfl⟩ rfl rfl hl.1 rfl (lv_room (Nat.le_of_ble_eq_true rfl)) dJ0_charAt_5068e_12 ⟨(Nat.le_of_ble_eq_true rfl), (Nat.le_of_ble_eq_true rfl)⟩) hP hS hA (fun H locs hP hS => ?_)
  refine W.eq (g2 := F0 m 15 ls [.int 51]) rfl ?_
  refine W.widen (k := 0) (n := 0) (Nat.le_of_ble_eq_true rfl) (Nat.le_of_ble_eq_true rfl) ?_
  exact W.zret (v := 51) hx hb hr rfl (QR_.mk hS (by rw [hM])) hS.2.2 dJ0_charAt_5068e_15
def F_J1_charAt_3b067_2_ad47  : Int32 := 59
set_option maxHeartbeats 4000000 in
set_option maxRecDepth 100000 in
theorem c_J1_charAt_3b067_2_ad47 (l : Launch) (hl0 : l.stackTraces = false) (D : va_G) (ad : Nat → Nat) (sz : Nat)  : Met l yJ1_charAt_3b067 wsJ1_charAt_3b067 ({ frames := 2, cells := 0, slots := 0, locals := 47 }) (PR_ D ad [] [] sz [.ref (ad 47), .int 2]) (QR_ (.int (F_J1_charAt_3b067_2_ad47)) (va_A [] sz)) 0 0 (va_A [] sz) := by
  refine Met.ofW (cc := cJ1_charAt_3b067) (maxL := 2) (ret := (some .char)) (by decide) rfl ?_
  intro p e s m args below meth c s₁ B hml hv
  obtain ⟨rfl, hsz, hP, hK, hF⟩ := hv
  have hx := B.exec
  have hb := B.bytes
  have hr := B.returns
  have hts := atoms_spec (ws := wsJ1_charAt_3b067) B.pre
  have hown : s.vm.findClass RJ1 = some m.cls := findClass_of_methodNamed B.named
  have hlocks := B.notSynchronized
  subst hsz
  generalize hAe : va_A [] s.heap.size = A at hF ⊢
  have hA : ∀ q : Nat, s.heap.size ≤ q → A q := fun q h => by rw [← hAe]; exact Or.inr h
  obtain ⟨H, hHe⟩ : ∃ H : Heap, H = s.heap := ⟨_, rfl⟩
  have hS : va_S A s.heap H [] := by rw [hHe]; exact va_S.rf
  have hP : va_P D vwCl [] H := by rw [hHe]; exact hP
  rw [← hHe]
  have hl := lv_entry [.ref (ad 47), .int 2] (n := 2) (Nat.le_of_ble_eq_true rfl)
  rw [lg_entry_eq]
  generalize (lg_sl [.ref (ad 47), .int 2] ++ List.replicate (2 - (lg_sl [.ref (ad 47), .int 2]).length) Slot.unset).toArray = ls at hl ⊢
  have hl : lv_has ls 2 [(0, .ref (ad 47)), (1, .int 2)] := hl
  have hM : F_J1_charAt_3b067_2_ad47 = 59 := rfl
  refine lv_iload_n hx hb dJ1_charAt_3b067_0 rfl (lv_at hl 1 rfl) ?_
  refine lv_aload_n hx hb dJ1_charAt_3b067_1 rfl (lv_at hl 0 rfl) ?_
  refine va_tlen (v := 8) hx hb ((fxst_ hF).1 7 (by decide)).2.2.2 hS rfl dJ1_charAt_3b067_2 ?_
  refine krv_ (va_runS (As := [.int 2, .int 8]) (rest := []) ⟨hx, hb, hml, hown, hts⟩ (c_J0_checkIndex_df160 l hl0 D ad H.size 2 8 (by decide +kernel) (by decide +kernel)) (va_cwS 2 hts gJ1_charAt_3b067_J0_checkIndex_df160 rfl rfl rfl (by decide +kernel) ⟨Nat.le_of_ble_eq_true rfl, Nat.le_of_ble_eq_true rfl⟩) ⟨PR_.blind, PR_.pre hF hK (hP.sub [] rfl) hS hA [] rfl⟩ rfl rfl hl.1 rfl (lv_room (Nat.le_of_ble_eq_true rfl)) dJ1_charAt_3b067_3 ⟨(Nat.le_of_ble_eq_true rfl), (Nat.le_of_ble_eq_true rfl)⟩) hP hS hA (fun H locs hP hS => ?_)
  refine W.eq (g2 := F0 m 6 ls []) rfl ?_
  refine lv_aload_n hx hb dJ1_charAt_3b067_6 rfl (lv_at hl 0 rfl) ?_
  refine lv_iload_n hx hb dJ1_charAt_3b067_7 rfl (lv_at hl 1 rfl) ?_
  refine va_tb (v := .int 59) hx hb ((fxst_ hF).1 7 (by decide)).2.2.2 hS (vin_ (by decide +kernel)) rfl dJ1_charAt_3b067_8 ?_
  refine lv_sipush (v := 255) hx hb dJ1_charAt_3b067_9 (by decide +kernel) ?_
  refine lv_iand hx hb dJ1_charAt_3b067_12 ?_
  refine kt_ (v := 59) (by decide +kernel) ?_
  refine lv_i2c (v := 59) hx hb dJ1_charAt_3b067_13 (by decide +kernel) ?_
  refine W.widen (k := 0) (n := 0) (Nat.le_of_ble_eq_true rfl) (Nat.le_of_ble_eq_true rfl) ?_
  exact W.zret (v := 59) hx hb hr rfl (QR_.mk hS (by rw [hM])) hS.2.2 dJ1_charAt_3b067_14
def F_J0_charAt_5068e_2_ad27  : Int32 := 59
set_option maxHeartbeats 4000000 in
set_option maxRecDepth 100000 in
theorem c_J0_charAt_5068e_2_ad27 (l : Launch) (hl0 : l.stackTraces = false) (D : va_G) (ad : Nat → Nat) (sz : Nat)  : Met l yJ0_charAt_5068e wsJ0_charAt_5068e ({ frames := 3, cells := 0, slots := 0, locals := 70 }) (PR_ D ad [] [] sz [.ref (ad 27), .int 2]) (QR_ (.int (F_J0_charAt_5068e_2_ad27)) (va_A [] sz)) 0 0 (va_A [] sz) := by
  refine Met.ofW (cc := cJ0_charAt_5068e) (maxL := 2) (ret := (some .char)) (by decide) rfl ?_
  intro p e s m args below meth c s₁ B hml hv
  obtain ⟨rfl, hsz, hP, hK, hF⟩ := hv
  have hx := B.exec
  have hb := B.bytes
  have hr := B.returns
  have hts := atoms_spec (ws := wsJ0_charAt_5068e) B.pre
  have hown : s.vm.findClass RJ0 = some m.cls := findClass_of_methodNamed B.named
  have hlocks := B.notSynchronized
  subst hsz
  generalize hAe : va_A [] s.heap.size = A at hF ⊢
  have hA : ∀ q : Nat, s.heap.size ≤ q → A q := fun q h => by rw [← hAe]; exact Or.inr h
  obtain ⟨H, hHe⟩ : ∃ H : Heap, H = s.heap := ⟨_, rfl⟩
  have hS : va_S A s.heap H [] := by rw [hHe]; exact va_S.rf
  have hP : va_P D vwCl [] H := by rw [hHe]; exact hP
  rw [← hHe]
  have hl := lv_entry [.ref (ad 27), .int 2] (n := 2) (Nat.le_of_ble_eq_true rfl)
  rw [lg_entry_eq]
  generalize (lg_sl [.ref (ad 27), .int 2] ++ List.replicate (2 - (lg_sl [.ref (ad 27), .int 2]).length) Slot.unset).toArray = ls at hl ⊢
  have hl : lv_has ls 2 [(0, .ref (ad 27)), (1, .int 2)] := hl
  have hM : F_J0_charAt_5068e_2_ad27 = 59 := rfl
  refine lv_aload_n hx hb dJ0_charAt_5068e_0 rfl (lv_at hl 0 rfl) ?_
  refine kr_ (va_runV (As := []) (rest := []) ⟨hx, hb, hml, hown, hts⟩ (c_J0_isLatin1_aae02_ad27 l hl0 D ad H.size) (cwV 0 hts gJ0_charAt_5068e_J0_isLatin1_aae02 rfl rfl rfl (by decide +kernel) ⟨Nat.le_of_ble_eq_true rfl, Nat.le_of_ble_eq_true rfl⟩) ⟨PR_.blind, vk_recv (fxst_ hF) (i := 7) (by decide) hS, PR_.pre hF hK (hP.sub [] rfl) hS hA [] rfl⟩ rfl rfl hl.1 rfl (lv_room (Nat.le_of_ble_eq_true rfl)) dJ0_charAt_5068e_1 ⟨(Nat.le_of_ble_eq_true rfl), (Nat.le_of_ble_eq_true rfl)⟩) hP hS hA (fun H locs hP hS => ?_)
  refine W.eq (g2 := F0 m 4 ls [.int 1]) rfl ?_
  refine lv_if_eq (tgt := 16) hx hb dJ0_charAt_5068e_4 (by decide) (fun c9 => absurd c9 (by decide +kernel)) (fun _ => ?_)
  refine lv_aload_n hx hb dJ0_charAt_5068e_7 rfl (lv_at hl 0 rfl) ?_
  refine vk_getf (o := "java/lang/String") (n := "value") (d := "[B") (q := ad 27) (v := .ref (ad 47)) hx hb ((fxst_ hF).1 7 (by decide)).2.2.1 hS hown (hts (.fieldLink RJ0 9 "java/lang/String" "value" "[B") (List.mem_of_getElem? (i := 1) (by decide +kernel))) (fun _ h9 => h9) dJ0_charAt_5068e_8 ?_
  refine lv_iload_n hx hb dJ0_charAt_5068e_11 rfl (lv_at hl 1 rfl) ?_
  refine kr_ (va_runS (As := [.ref (ad 47), .int 2]) (rest := []) ⟨hx, hb, hml, hown, hts⟩ (c_J1_charAt_3b067_2_ad47 l hl0 D ad H.size) (va_cwS 2 hts gJ0_charAt_5068e_J1_charAt_3b067 rfl rfl rfl (by decide +kernel) ⟨Nat.le_of_ble_eq_true rfl, Nat.le_of_ble_eq_true rfl⟩) ⟨PR_.blind, PR_.pre hF hK (hP.sub [] rfl) hS hA [] rfl⟩ rfl rfl hl.1 rfl (lv_room (Nat.le_of_ble_eq_true rfl)) dJ0_charAt_5068e_12 ⟨(Nat.le_of_ble_eq_true rfl), (Nat.le_of_ble_eq_true rfl)⟩) hP hS hA (fun H locs hP hS => ?_)
  refine W.eq (g2 := F0 m 15 ls [.int 59]) rfl ?_
  refine W.widen (k := 0) (n := 0) (Nat.le_of_ble_eq_true rfl) (Nat.le_of_ble_eq_true rfl) ?_
  exact W.zret (v := 59) hx hb hr rfl (QR_.mk hS (by rw [hM])) hS.2.2 dJ0_charAt_5068e_15
def F_J1_charAt_3b067_3_ad47  : Int32 := 99
set_option maxHeartbeats 4000000 in
set_option maxRecDepth 100000 in
theorem c_J1_charAt_3b067_3_ad47 (l : Launch) (hl0 : l.stackTraces = false) (D : va_G) (ad : Nat → Nat) (sz : Nat)  : Met l yJ1_charAt_3b067 wsJ1_charAt_3b067 ({ frames := 2, cells := 0, slots := 0, locals := 47 }) (PR_ D ad [] [] sz [.ref (ad 47), .int 3]) (QR_ (.int (F_J1_charAt_3b067_3_ad47)) (va_A [] sz)) 0 0 (va_A [] sz) := by
  refine Met.ofW (cc := cJ1_charAt_3b067) (maxL := 2) (ret := (some .char)) (by decide) rfl ?_
  intro p e s m args below meth c s₁ B hml hv
  obtain ⟨rfl, hsz, hP, hK, hF⟩ := hv
  have hx := B.exec
  have hb := B.bytes
  have hr := B.returns
  have hts := atoms_spec (ws := wsJ1_charAt_3b067) B.pre
  have hown : s.vm.findClass RJ1 = some m.cls := findClass_of_methodNamed B.named
  have hlocks := B.notSynchronized
  subst hsz
  generalize hAe : va_A [] s.heap.size = A at hF ⊢
  have hA : ∀ q : Nat, s.heap.size ≤ q → A q := fun q h => by rw [← hAe]; exact Or.inr h
  obtain ⟨H, hHe⟩ : ∃ H : Heap, H = s.heap := ⟨_, rfl⟩
  have hS : va_S A s.heap H [] := by rw [hHe]; exact va_S.rf
  have hP : va_P D vwCl [] H := by rw [hHe]; exact hP
  rw [← hHe]
  have hl := lv_entry [.ref (ad 47), .int 3] (n := 2) (Nat.le_of_ble_eq_true rfl)
  rw [lg_entry_eq]
  generalize (lg_sl [.ref (ad 47), .int 3] ++ List.replicate (2 - (lg_sl [.ref (ad 47), .int 3]).length) Slot.unset).toArray = ls at hl ⊢
  have hl : lv_has ls 2 [(0, .ref (ad 47)), (1, .int 3)] := hl
  have hM : F_J1_charAt_3b067_3_ad47 = 99 := rfl
  refine lv_iload_n hx hb dJ1_charAt_3b067_0 rfl (lv_at hl 1 rfl) ?_
  refine lv_aload_n hx hb dJ1_charAt_3b067_1 rfl (lv_at hl 0 rfl) ?_
  refine va_tlen (v := 8) hx hb ((fxst_ hF).1 7 (by decide)).2.2.2 hS rfl dJ1_charAt_3b067_2 ?_
  refine krv_ (va_runS (As := [.int 3, .int 8]) (rest := []) ⟨hx, hb, hml, hown, hts⟩ (c_J0_checkIndex_df160 l hl0 D ad H.size 3 8 (by decide +kernel) (by decide +kernel)) (va_cwS 2 hts gJ1_charAt_3b067_J0_checkIndex_df160 rfl rfl rfl (by decide +kernel) ⟨Nat.le_of_ble_eq_true rfl, Nat.le_of_ble_eq_true rfl⟩) ⟨PR_.blind, PR_.pre hF hK (hP.sub [] rfl) hS hA [] rfl⟩ rfl rfl hl.1 rfl (lv_room (Nat.le_of_ble_eq_true rfl)) dJ1_charAt_3b067_3 ⟨(Nat.le_of_ble_eq_true rfl), (Nat.le_of_ble_eq_true rfl)⟩) hP hS hA (fun H locs hP hS => ?_)
  refine W.eq (g2 := F0 m 6 ls []) rfl ?_
  refine lv_aload_n hx hb dJ1_charAt_3b067_6 rfl (lv_at hl 0 rfl) ?_
  refine lv_iload_n hx hb dJ1_charAt_3b067_7 rfl (lv_at hl 1 rfl) ?_
  refine va_tb (v := .int 99) hx hb ((fxst_ hF).1 7 (by decide)).2.2.2 hS (vin_ (by decide +kernel)) rfl dJ1_charAt_3b067_8 ?_
  refine lv_sipush (v := 255) hx hb dJ1_charAt_3b067_9 (by decide +kernel) ?_
  refine lv_iand hx hb dJ1_charAt_3b067_12 ?_
  refine kt_ (v := 99) (by decide +kernel) ?_
  refine lv_i2c (v := 99) hx hb dJ1_charAt_3b067_13 (by decide +kernel) ?_
  refine W.widen (k := 0) (n := 0) (Nat.le_of_ble_eq_true rfl) (Nat.le_of_ble_eq_true rfl) ?_
  exact W.zret (v := 99) hx hb hr rfl (QR_.mk hS (by rw [hM])) hS.2.2 dJ1_charAt_3b067_14
def F_J0_charAt_5068e_3_ad27  : Int32 := 99
set_option maxHeartbeats 4000000 in
set_option maxRecDepth 100000 in
theorem c_J0_charAt_5068e_3_ad27 (l : Launch) (hl0 : l.stackTraces = false) (D : va_G) (ad : Nat → Nat) (sz : Nat)  : Met l yJ0_charAt_5068e wsJ0_charAt_5068e ({ frames := 3, cells := 0, slots := 0, locals := 70 }) (PR_ D ad [] [] sz [.ref (ad 27), .int 3]) (QR_ (.int (F_J0_charAt_5068e_3_ad27)) (va_A [] sz)) 0 0 (va_A [] sz) := by
  refine Met.ofW (cc := cJ0_charAt_5068e) (maxL := 2) (ret := (some .char)) (by decide) rfl ?_
  intro p e s m args below meth c s₁ B hml hv
  obtain ⟨rfl, hsz, hP, hK, hF⟩ := hv
  have hx := B.exec
  have hb := B.bytes
  have hr := B.returns
  have hts := atoms_spec (ws := wsJ0_charAt_5068e) B.pre
  have hown : s.vm.findClass RJ0 = some m.cls := findClass_of_methodNamed B.named
  have hlocks := B.notSynchronized
  subst hsz
  generalize hAe : va_A [] s.heap.size = A at hF ⊢
  have hA : ∀ q : Nat, s.heap.size ≤ q → A q := fun q h => by rw [← hAe]; exact Or.inr h
  obtain ⟨H, hHe⟩ : ∃ H : Heap, H = s.heap := ⟨_, rfl⟩
  have hS : va_S A s.heap H [] := by rw [hHe]; exact va_S.rf
  have hP : va_P D vwCl [] H := by rw [hHe]; exact hP
  rw [← hHe]
  have hl := lv_entry [.ref (ad 27), .int 3] (n := 2) (Nat.le_of_ble_eq_true rfl)
  rw [lg_entry_eq]
  generalize (lg_sl [.ref (ad 27), .int 3] ++ List.replicate (2 - (lg_sl [.ref (ad 27), .int 3]).length) Slot.unset).toArray = ls at hl ⊢
  have hl : lv_has ls 2 [(0, .ref (ad 27)), (1, .int 3)] := hl
  have hM : F_J0_charAt_5068e_3_ad27 = 99 := rfl
  refine lv_aload_n hx hb dJ0_charAt_5068e_0 rfl (lv_at hl 0 rfl) ?_
  refine kr_ (va_runV (As := []) (rest := []) ⟨hx, hb, hml, hown, hts⟩ (c_J0_isLatin1_aae02_ad27 l hl0 D ad H.size) (cwV 0 hts gJ0_charAt_5068e_J0_isLatin1_aae02 rfl rfl rfl (by decide +kernel) ⟨Nat.le_of_ble_eq_true rfl, Nat.le_of_ble_eq_true rfl⟩) ⟨PR_.blind, vk_recv (fxst_ hF) (i := 7) (by decide) hS, PR_.pre hF hK (hP.sub [] rfl) hS hA [] rfl⟩ rfl rfl hl.1 rfl (lv_room (Nat.le_of_ble_eq_true rfl)) dJ0_charAt_5068e_1 ⟨(Nat.le_of_ble_eq_true rfl), (Nat.le_of_ble_eq_true rfl)⟩) hP hS hA (fun H locs hP hS => ?_)
  refine W.eq (g2 := F0 m 4 ls [.int 1]) rfl ?_
  refine lv_if_eq (tgt := 16) hx hb dJ0_charAt_5068e_4 (by decide) (fun c9 => absurd c9 (by decide +kernel)) (fun _ => ?_)
  refine lv_aload_n hx hb dJ0_charAt_5068e_7 rfl (lv_at hl 0 rfl) ?_
  refine vk_getf (o := "java/lang/String") (n := "value") (d := "[B") (q := ad 27) (v := .ref (ad 47)) hx hb ((fxst_ hF).1 7 (by decide)).2.2.1 hS hown (hts (.fieldLink RJ0 9 "java/lang/String" "value" "[B") (List.mem_of_getElem? (i := 1) (by decide +kernel))) (fun _ h9 => h9) dJ0_charAt_5068e_8 ?_
  refine lv_iload_n hx hb dJ0_charAt_5068e_11 rfl (lv_at hl 1 rfl) ?_
  refine kr_ (va_runS (As := [.ref (ad 47), .int 3]) (rest := []) ⟨hx, hb, hml, hown, hts⟩ (c_J1_charAt_3b067_3_ad47 l hl0 D ad H.size) (va_cwS 2 hts gJ0_charAt_5068e_J1_charAt_3b067 rfl rfl rfl (by decide +kernel) ⟨Nat.le_of_ble_eq_true rfl, Nat.le_of_ble_eq_true rfl⟩) ⟨PR_.blind, PR_.pre hF hK (hP.sub [] rfl) hS hA [] rfl⟩ rfl rfl hl.1 rfl (lv_room (Nat.le_of_ble_eq_true rfl)) dJ0_charAt_5068e_12 ⟨(Nat.le_of_ble_eq_true rfl), (Nat.le_of_ble_eq_true rfl)⟩) hP hS hA (fun H locs hP hS => ?_)
  refine W.eq (g2 := F0 m 15 ls [.int 99]) rfl ?_
  refine W.widen (k := 0) (n := 0) (Nat.le_of_ble_eq_true rfl) (Nat.le_of_ble_eq_true rfl) ?_
  exact W.zret (v := 99) hx hb hr rfl (QR_.mk hS (by rw [hM])) hS.2.2 dJ0_charAt_5068e_15
def F_J1_charAt_3b067_4_ad47  : Int32 := 48
set_option maxHeartbeats 4000000 in
set_option maxRecDepth 100000 in
theorem c_J1_charAt_3b067_4_ad47 (l : Launch) (hl0 : l.stackTraces = false) (D : va_G) (ad : Nat → Nat) (sz : Nat)  : Met l yJ1_charAt_3b067 wsJ1_charAt_3b067 ({ frames := 2, cells := 0, slots := 0, locals := 47 }) (PR_ D ad [] [] sz [.ref (ad 47), .int 4]) (QR_ (.int (F_J1_charAt_3b067_4_ad47)) (va_A [] sz)) 0 0 (va_A [] sz) := by
  refine Met.ofW (cc := cJ1_charAt_3b067) (maxL := 2) (ret := (some .char)) (by decide) rfl ?_
  intro p e s m args below meth c s₁ B hml hv
  obtain ⟨rfl, hsz, hP, hK, hF⟩ := hv
  have hx := B.exec
  have hb := B.bytes
  have hr := B.returns
  have hts := atoms_spec (ws := wsJ1_charAt_3b067) B.pre
  have hown : s.vm.findClass RJ1 = some m.cls := findClass_of_methodNamed B.named
  have hlocks := B.notSynchronized
  subst hsz
  generalize hAe : va_A [] s.heap.size = A at hF ⊢
  have hA : ∀ q : Nat, s.heap.size ≤ q → A q := fun q h => by rw [← hAe]; exact Or.inr h
  obtain ⟨H, hHe⟩ : ∃ H : Heap, H = s.heap := ⟨_, rfl⟩
  have hS : va_S A s.heap H [] := by rw [hHe]; exact va_S.rf
  have hP : va_P D vwCl [] H := by rw [hHe]; exact hP
  rw [← hHe]
  have hl := lv_entry [.ref (ad 47), .int 4] (n := 2) (Nat.le_of_ble_eq_true rfl)
  rw [lg_entry_eq]
  generalize (lg_sl [.ref (ad 47), .int 4] ++ List.replicate (2 - (lg_sl [.ref (ad 47), .int 4]).length) Slot.unset).toArray = ls at hl ⊢
  have hl : lv_has ls 2 [(0, .ref (ad 47)), (1, .int 4)] := hl
  have hM : F_J1_charAt_3b067_4_ad47 = 48 := rfl
  refine lv_iload_n hx hb dJ1_charAt_3b067_0 rfl (lv_at hl 1 rfl) ?_
  refine lv_aload_n hx hb dJ1_charAt_3b067_1 rfl (lv_at hl 0 rfl) ?_
  refine va_tlen (v := 8) hx hb ((fxst_ hF).1 7 (by decide)).2.2.2 hS rfl dJ1_charAt_3b067_2 ?_
  refine krv_ (va_runS (As := [.int 4, .int 8]) (rest := []) ⟨hx, hb, hml, hown, hts⟩ (c_J0_checkIndex_df160 l hl0 D ad H.size 4 8 (by decide +kernel) (by decide +kernel)) (va_cwS 2 hts gJ1_charAt_3b067_J0_checkIndex_df160 rfl rfl rfl (by decide +kernel) ⟨Nat.le_of_ble_eq_true rfl, Nat.le_of_ble_eq_true rfl⟩) ⟨PR_.blind, PR_.pre hF hK (hP.sub [] rfl) hS hA [] rfl⟩ rfl rfl hl.1 rfl (lv_room (Nat.le_of_ble_eq_true rfl)) dJ1_charAt_3b067_3 ⟨(Nat.le_of_ble_eq_true rfl), (Nat.le_of_ble_eq_true rfl)⟩) hP hS hA (fun H locs hP hS => ?_)
  refine W.eq (g2 := F0 m 6 ls []) rfl ?_
  refine lv_aload_n hx hb dJ1_charAt_3b067_6 rfl (lv_at hl 0 rfl) ?_
  refine lv_iload_n hx hb dJ1_charAt_3b067_7 rfl (lv_at hl 1 rfl) ?_
  refine va_tb (v := .int 48) hx hb ((fxst_ hF).1 7 (by decide)).2.2.2 hS (vin_ (by decide +kernel)) rfl dJ1_charAt_3b067_8 ?_
  refine lv_sipush (v := 255) hx hb dJ1_charAt_3b067_9 (by decide +kernel) ?_
  refine lv_iand hx hb dJ1_charAt_3b067_12 ?_
  refine kt_ (v := 48) (by decide +kernel) ?_
  refine lv_i2c (v := 48) hx hb dJ1_charAt_3b067_13 (by decide +kernel) ?_
  refine W.widen (k := 0) (n := 0) (Nat.le_of_ble_eq_true rfl) (Nat.le_of_ble_eq_true rfl) ?_
  exact W.zret (v := 48) hx hb hr rfl (QR_.mk hS (by rw [hM])) hS.2.2 dJ1_charAt_3b067_14
def F_J0_charAt_5068e_4_ad27  : Int32 := 48
set_option maxHeartbeats 4000000 in
set_option maxRecDepth 100000 in
theorem c_J0_charAt_5068e_4_ad27 (l : Launch) (hl0 : l.stackTraces = false) (D : va_G) (ad : Nat → Nat) (sz : Nat)  : Met l yJ0_charAt_5068e wsJ0_charAt_5068e ({ frames := 3, cells := 0, slots := 0, locals := 70 }) (PR_ D ad [] [] sz [.ref (ad 27), .int 4]) (QR_ (.int (F_J0_charAt_5068e_4_ad27)) (va_A [] sz)) 0 0 (va_A [] sz) := by
  refine Met.ofW (cc := cJ0_charAt_5068e) (maxL := 2) (ret := (some .char)) (by decide) rfl ?_
  intro p e s m args below meth c s₁ B hml hv
  obtain ⟨rfl, hsz, hP, hK, hF⟩ := hv
  have hx := B.exec
  have hb := B.bytes
  have hr := B.returns
  have hts := atoms_spec (ws := wsJ0_charAt_5068e) B.pre
  have hown : s.vm.findClass RJ0 = some m.cls := findClass_of_methodNamed B.named
  have hlocks := B.notSynchronized
  subst hsz
  generalize hAe : va_A [] s.heap.size = A at hF ⊢
  have hA : ∀ q : Nat, s.heap.size ≤ q → A q := fun q h => by rw [← hAe]; exact Or.inr h
  obtain ⟨H, hHe⟩ : ∃ H : Heap, H = s.heap := ⟨_, rfl⟩
  have hS : va_S A s.heap H [] := by rw [hHe]; exact va_S.rf
  have hP : va_P D vwCl [] H := by rw [hHe]; exact hP
  rw [← hHe]
  have hl := lv_entry [.ref (ad 27), .int 4] (n := 2) (Nat.le_of_ble_eq_true rfl)
  rw [lg_entry_eq]
  generalize (lg_sl [.ref (ad 27), .int 4] ++ List.replicate (2 - (lg_sl [.ref (ad 27), .int 4]).length) Slot.unset).toArray = ls at hl ⊢
  have hl : lv_has ls 2 [(0, .ref (ad 27)), (1, .int 4)] := hl
  have hM : F_J0_charAt_5068e_4_ad27 = 48 := rfl
  refine lv_aload_n hx hb dJ0_charAt_5068e_0 rfl (lv_at hl 0 rfl) ?_
  refine kr_ (va_runV (As := []) (rest := []) ⟨hx, hb, hml, hown, hts⟩ (c_J0_isLatin1_aae02_ad27 l hl0 D ad H.size) (cwV 0 hts gJ0_charAt_5068e_J0_isLatin1_aae02 rfl rfl rfl (by decide +kernel) ⟨Nat.le_of_ble_eq_true rfl, Nat.le_of_ble_eq_true rfl⟩) ⟨PR_.blind, vk_recv (fxst_ hF) (i := 7) (by decide) hS, PR_.pre hF hK (hP.sub [] rfl) hS hA [] rfl⟩ rfl rfl hl.1 rfl (lv_room (Nat.le_of_ble_eq_true rfl)) dJ0_charAt_5068e_1 ⟨(Nat.le_of_ble_eq_true rfl), (Nat.le_of_ble_eq_true rfl)⟩) hP hS hA (fun H locs hP hS => ?_)
  refine W.eq (g2 := F0 m 4 ls [.int 1]) rfl ?_
  refine lv_if_eq (tgt := 16) hx hb dJ0_charAt_5068e_4 (by decide) (fun c9 => absurd c9 (by decide +kernel)) (fun _ => ?_)
  refine lv_aload_n hx hb dJ0_charAt_5068e_7 rfl (lv_at hl 0 rfl) ?_
  refine vk_getf (o := "java/lang/String") (n := "value") (d := "[B") (q := ad 27) (v := .ref (ad 47)) hx hb ((fxst_ hF).1 7 (by decide)).2.2.1 hS hown (hts (.fieldLink RJ0 9 "java/lang/String" "value" "[B") (List.mem_of_getElem? (i := 1) (by decide +kernel))) (fun _ h9 => h9) dJ0_charAt_5068e_8 ?_
  refine lv_iload_n hx hb dJ0_charAt_5068e_11 rfl (lv_at hl 1 rfl) ?_
  refine kr_ (va_runS (As := [.ref (ad 47), .int 4]) (rest := []) ⟨hx, hb, hml, hown, hts⟩ (c_J1_charAt_3b067_4_ad47 l hl0 D ad H.size) (va_cwS 2 hts gJ0_charAt_5068e_J1_charAt_3b067 rfl rfl rfl (by decide +kernel) ⟨Nat.le_of_ble_eq_true rfl, Nat.le_of_ble_eq_true rfl⟩) ⟨PR_.blind, PR_.pre hF hK (hP.sub [] rfl) hS hA [] rfl⟩ rfl rfl hl.1 rfl (lv_room (Nat.le_of_ble_eq_true rfl)) dJ0_charAt_5068e_12 ⟨(Nat.le_of_ble_eq_true rfl), (Nat.le_of_ble_eq_true rfl)⟩) hP hS hA (fun H locs hP hS => ?_)
  refine W.eq (g2 := F0 m 15 ls [.int 48]) rfl ?_
  refine W.widen (k := 0) (n := 0) (Nat.le_of_ble_eq_true rfl) (Nat.le_of_ble_eq_true rfl) ?_
  exact W.zret (v := 48) hx hb hr rfl (QR_.mk hS (by rw [hM])) hS.2.2 dJ0_charAt_5068e_15
def F_J1_charAt_3b067_5_ad47  : Int32 := 57
set_option maxHeartbeats 4000000 in
set_option maxRecDepth 100000 in
theorem c_J1_charAt_3b067_5_ad47 (l : Launch) (hl0 : l.stackTraces = false) (D : va_G) (ad : Nat → Nat) (sz : Nat)  : Met l yJ1_charAt_3b067 wsJ1_charAt_3b067 ({ frames := 2, cells := 0, slots := 0, locals := 47 }) (PR_ D ad [] [] sz [.ref (ad 47), .int 5]) (QR_ (.int (F_J1_charAt_3b067_5_ad47)) (va_A [] sz)) 0 0 (va_A [] sz) := by
  refine Met.ofW (cc := cJ1_charAt_3b067) (maxL := 2) (ret := (some .char)) (by decide) rfl ?_
  intro p e s m args below meth c s₁ B hml hv
  obtain ⟨rfl, hsz, hP, hK, hF⟩ := hv
  have hx := B.exec
  have hb := B.bytes
  have hr := B.returns
  have hts := atoms_spec (ws := wsJ1_charAt_3b067) B.pre
  have hown : s.vm.findClass RJ1 = some m.cls := findClass_of_methodNamed B.named
  have hlocks := B.notSynchronized
  subst hsz
  generalize hAe : va_A [] s.heap.size = A at hF ⊢
  have hA : ∀ q : Nat, s.heap.size ≤ q → A q := fun q h => by rw [← hAe]; exact Or.inr h
  obtain ⟨H, hHe⟩ : ∃ H : Heap, H = s.heap := ⟨_, rfl⟩
  have hS : va_S A s.heap H [] := by rw [hHe]; exact va_S.rf
  have hP : va_P D vwCl [] H := by rw [hHe]; exact hP
  rw [← hHe]
  have hl := lv_entry [.ref (ad 47), .int 5] (n := 2) (Nat.le_of_ble_eq_true rfl)
  rw [lg_entry_eq]
  generalize (lg_sl [.ref (ad 47), .int 5] ++ List.replicate (2 - (lg_sl [.ref (ad 47), .int 5]).length) Slot.unset).toArray = ls at hl ⊢
  have hl : lv_has ls 2 [(0, .ref (ad 47)), (1, .int 5)] := hl
  have hM : F_J1_charAt_3b067_5_ad47 = 57 := rfl
  refine lv_iload_n hx hb dJ1_charAt_3b067_0 rfl (lv_at hl 1 rfl) ?_
  refine lv_aload_n hx hb dJ1_charAt_3b067_1 rfl (lv_at hl 0 rfl) ?_
  refine va_tlen (v := 8) hx hb ((fxst_ hF).1 7 (by decide)).2.2.2 hS rfl dJ1_charAt_3b067_2 ?_
  refine krv_ (va_runS (As := [.int 5, .int 8]) (rest := []) ⟨hx, hb, hml, hown, hts⟩ (c_J0_checkIndex_df160 l hl0 D ad H.size 5 8 (by decide +kernel) (by decide +kernel)) (va_cwS 2 hts gJ1_charAt_3b067_J0_checkIndex_df160 rfl rfl rfl (by decide +kernel) ⟨Nat.le_of_ble_eq_true rfl, Nat.le_of_ble_eq_true rfl⟩) ⟨PR_.blind, PR_.pre hF hK (hP.sub [] rfl) hS hA [] rfl⟩ rfl rfl hl.1 rfl (lv_room (Nat.le_of_ble_eq_true rfl)) dJ1_charAt_3b067_3 ⟨(Nat.le_of_ble_eq_true rfl), (Nat.le_of_ble_eq_true rfl)⟩) hP hS hA (fun H locs hP hS => ?_)
  refine W.eq (g2 := F0 m 6 ls []) rfl ?_
  refine lv_aload_n hx hb dJ1_charAt_3b067_6 rfl (lv_at hl 0 rfl) ?_
  refine lv_iload_n hx hb dJ1_charAt_3b067_7 rfl (lv_at hl 1 rfl) ?_
  refine va_tb (v := .int 57) hx hb ((fxst_ hF).1 7 (by decide)).2.2.2 hS (vin_ (by decide +kernel)) rfl dJ1_charAt_3b067_8 ?_
  refine lv_sipush (v := 255) hx hb dJ1_charAt_3b067_9 (by decide +kernel) ?_
  refine lv_iand hx hb dJ1_charAt_3b067_12 ?_
  refine kt_ (v := 57) (by decide +kernel) ?_
  refine lv_i2c (v := 57) hx hb dJ1_charAt_3b067_13 (by decide +kernel) ?_
  refine W.widen (k := 0) (n := 0) (Nat.le_of_ble_eq_true rfl) (Nat.le_of_ble_eq_true rfl) ?_
  exact W.zret (v := 57) hx hb hr rfl (QR_.mk hS (by rw [hM])) hS.2.2 dJ1_charAt_3b067_14
def F_J0_charAt_5068e_5_ad27  : Int32 := 57
set_option maxHeartbeats 4000000 in
set_option maxRecDepth 100000 in
theorem c_J0_charAt_5068e_5_ad27 (l : Launch) (hl0 : l.stackTraces = false) (D : va_G) (ad : Nat → Nat) (sz : Nat)  : Met l yJ0_charAt_5068e wsJ0_charAt_5068e ({ frames := 3, cells := 0, slots := 0, locals := 70 }) (PR_ D ad [] [] sz [.ref (ad 27), .int 5]) (QR_ (.int (F_J0_charAt_5068e_5_ad27)) (va_A [] sz)) 0 0 (va_A [] sz) := by
  refine Met.ofW (cc := cJ0_charAt_5068e) (maxL := 2) (ret := (some .char)) (by decide) rfl ?_
  intro p e s m args below meth c s₁ B hml hv
  obtain ⟨rfl, hsz, hP, hK, hF⟩ := hv
  have hx := B.exec
  have hb := B.bytes
  have hr := B.returns
  have hts := atoms_spec (ws := wsJ0_charAt_5068e) B.pre
  have hown : s.vm.findClass RJ0 = some m.cls := findClass_of_methodNamed B.named
  have hlocks := B.notSynchronized
  subst hsz
  generalize hAe : va_A [] s.heap.size = A at hF ⊢
  have hA : ∀ q : Nat, s.heap.size ≤ q → A q := fun q h => by rw [← hAe]; exact Or.inr h
  obtain ⟨H, hHe⟩ : ∃ H : Heap, H = s.heap := ⟨_, rfl⟩
  have hS : va_S A s.heap H [] := by rw [hHe]; exact va_S.rf
  have hP : va_P D vwCl [] H := by rw [hHe]; exact hP
  rw [← hHe]
  have hl := lv_entry [.ref (ad 27), .int 5] (n := 2) (Nat.le_of_ble_eq_true rfl)
  rw [lg_entry_eq]
  generalize (lg_sl [.ref (ad 27), .int 5] ++ List.replicate (2 - (lg_sl [.ref (ad 27), .int 5]).length) Slot.unset).toArray = ls at hl ⊢
  have hl : lv_has ls 2 [(0, .ref (ad 27)), (1, .int 5)] := hl
  have hM : F_J0_charAt_5068e_5_ad27 = 57 := rfl
  refine lv_aload_n hx hb dJ0_charAt_5068e_0 rfl (lv_at hl 0 rfl) ?_
  refine kr_ (va_runV (As := []) (rest := []) ⟨hx, hb, hml, hown, hts⟩ (c_J0_isLatin1_aae02_ad27 l hl0 D ad H.size) (cwV 0 hts gJ0_charAt_5068e_J0_isLatin1_aae02 rfl rfl rfl (by decide +kernel) ⟨Nat.le_of_ble_eq_true rfl, Nat.le_of_ble_eq_true rfl⟩) ⟨PR_.blind, vk_recv (fxst_ hF) (i := 7) (by decide) hS, PR_.pre hF hK (hP.sub [] rfl) hS hA [] rfl⟩ rfl rfl hl.1 rfl (lv_room (Nat.le_of_ble_eq_true rfl)) dJ0_charAt_5068e_1 ⟨(Nat.le_of_ble_eq_true rfl), (Nat.le_of_ble_eq_true rfl)⟩) hP hS hA (fun H locs hP hS => ?_)
  refine W.eq (g2 := F0 m 4 ls [.int 1]) rfl ?_
  refine lv_if_eq (tgt := 16) hx hb dJ0_charAt_5068e_4 (by decide) (fun c9 => absurd c9 (by decide +kernel)) (fun _ => ?_)
  refine lv_aload_n hx hb dJ0_charAt_5068e_7 rfl (lv_at hl 0 rfl) ?_
  refine vk_getf (o := "java/lang/String") (n := "value") (d := "[B") (q := ad 27) (v := .ref (ad 47)) hx hb ((fxst_ hF).1 7 (by decide)).2.2.1 hS hown (hts (.fieldLink RJ0 9 "java/lang/String" "value" "[B") (List.mem_of_getElem? (i := 1) (by decide +kernel))) (fun _ h9 => h9) dJ0_charAt_5068e_8 ?_
  refine lv_iload_n hx hb dJ0_charAt_5068e_11 rfl (lv_at hl 1 rfl) ?_
  refine kr_ (va_runS (As := [.ref (ad 47), .int 5]) (rest := []) ⟨hx, hb, hml, hown, hts⟩ (c_J1_charAt_3b067_5_ad47 l hl0 D ad H.size) (va_cwS 2 hts gJ0_charAt_5068e_J1_charAt_3b067 rfl rfl rfl (by decide +kernel) ⟨Nat.le_of_ble_eq_true rfl, Nat.le_of_ble_eq_true rfl⟩) ⟨PR_.blind, PR_.pre hF hK (hP.sub [] rfl) hS hA [] rfl⟩ rfl rfl hl.1 rfl (lv_room (Nat.le_of_ble_eq_true rfl)) dJ0_charAt_5068e_12 ⟨(Nat.le_of_ble_eq_true rfl), (Nat.le_of_ble_eq_true rfl)⟩) hP hS hA (fun H locs hP hS => ?_)
  refine W.eq (g2 := F0 m 15 ls [.int 57]) rfl ?_
  refine W.widen (k := 0) (n := 0) (Nat.le_of_ble_eq_true rfl) (Nat.le_of_ble_eq_true rfl) ?_
  exact W.zret (v := 57) hx hb hr rfl (QR_.mk hS (by rw [hM])) hS.2.2 dJ0_charAt_5068e_15
def F_J1_charAt_3b067_6_ad47  : Int32 := 61
set_option maxHeartbeats 4000000 in
set_option maxRecDepth 100000 in
theorem c_J1_charAt_3b067_6_ad47 (l : Launch) (hl0 : l.stackTraces = false) (D : va_G) (ad : Nat → Nat) (sz : Nat)  : Met l yJ1_charAt_3b067 wsJ1_charAt_3b067 ({ frames := 2, cells := 0, slots := 0, locals := 47 }) (PR_ D ad [] [] sz [.ref (ad 47), .int 6]) (QR_ (.int (F_J1_charAt_3b067_6_ad47)) (va_A [] sz)) 0 0 (va_A [] sz) := by
  refine Met.ofW (cc := cJ1_charAt_3b067) (maxL := 2) (ret := (some .char)) (by decide) rfl ?_
  intro p e s m args below meth c s₁ B hml hv
  obtain ⟨rfl, hsz, hP, hK, hF⟩ := hv
  have hx := B.exec
  have hb := B.bytes
  have hr := B.returns
  have hts := atoms_spec (ws := wsJ1_charAt_3b067) B.pre
  have hown : s.vm.findClass RJ1 = some m.cls := findClass_of_methodNamed B.named
  have hlocks := B.notSynchronized
  subst hsz
  generalize hAe : va_A [] s.heap.size = A at hF ⊢
  have hA : ∀ q : Nat, s.heap.size ≤ q → A q := fun q h => by rw [← hAe]; exact Or.inr h
  obtain ⟨H, hHe⟩ : ∃ H : Heap, H = s.heap := ⟨_, rfl⟩
  have hS : va_S A s.heap H [] := by rw [hHe]; exact va_S.rf
  have hP : va_P D vwCl [] H := by rw [hHe]; exact hP
  rw [← hHe]
  have hl := lv_entry [.ref (ad 47), .int 6] (n := 2) (Nat.le_of_ble_eq_true rfl)
  rw [lg_entry_eq]
  generalize (lg_sl [.ref (ad 47), .int 6] ++ List.replicate (2 - (lg_sl [.ref (ad 47), .int 6]).length) Slot.unset).toArray = ls at hl ⊢
  have hl : lv_has ls 2 [(0, .ref (ad 47)), (1, .int 6)] := hl
  have hM : F_J1_charAt_3b067_6_ad47 = 61 := rfl
  refine lv_iload_n hx hb dJ1_charAt_3b067_0 rfl (lv_at hl 1 rfl) ?_
  refine lv_aload_n hx hb dJ1_charAt_3b067_1 rfl (lv_at hl 0 rfl) ?_
  refine va_tlen (v := 8) hx hb ((fxst_ hF).1 7 (by decide)).2.2.2 hS rfl dJ1_charAt_3b067_2 ?_
  refine krv_ (va_runS (As := [.int 6, .int 8]) (rest := []) ⟨hx, hb, hml, hown, hts⟩ (c_J0_checkIndex_df160 l hl0 D ad H.size 6 8 (by decide +kernel) (by decide +kernel)) (va_cwS 2 hts gJ1_charAt_3b067_J0_checkIndex_df160 rfl rfl rfl (by decide +kernel) ⟨Nat.le_of_ble_eq_true rfl, Nat.le_of_ble_eq_true rfl⟩) ⟨PR_.blind, PR_.pre hF hK (hP.sub [] rfl) hS hA [] rfl⟩ rfl rfl hl.1 rfl (lv_room (Nat.le_of_ble_eq_true rfl)) dJ1_charAt_3b067_3 ⟨(Nat.le_of_ble_eq_true rfl), (Nat.le_of_ble_eq_true rfl)⟩) hP hS hA (fun H locs hP hS => ?_)
  refine W.eq (g2 := F0 m 6 ls []) rfl ?_
  refine lv_aload_n hx hb dJ1_charAt_3b067_6 rfl (lv_at hl 0 rfl) ?_
  refine lv_iload_n hx hb dJ1_charAt_3b067_7 rfl (lv_at hl 1 rfl) ?_
  refine va_tb (v := .int 61) hx hb ((fxst_ hF).1 7 (by decide)).2.2.2 hS (vin_ (by decide +kernel)) rfl dJ1_charAt_3b067_8 ?_
  refine lv_sipush (v := 255) hx hb dJ1_charAt_3b067_9 (by decide +kernel) ?_
  refine lv_iand hx hb dJ1_charAt_3b067_12 ?_
  refine kt_ (v := 61) (by decide +kernel) ?_
  refine lv_i2c (v := 61) hx hb dJ1_charAt_3b067_13 (by decide +kernel) ?_
  refine W.widen (k := 0) (n := 0) (Nat.le_of_ble_eq_true rfl) (Nat.le_of_ble_eq_true rfl) ?_
  exact W.zret (v := 61) hx hb hr rfl (QR_.mk hS (by rw [hM])) hS.2.2 dJ1_charAt_3b067_14
def F_J0_charAt_5068e_6_ad27  : Int32 := 61
set_option maxHeartbeats 4000000 in
set_option maxRecDepth 100000 in
theorem c_J0_charAt_5068e_6_ad27 (l : Launch) (hl0 : l.stackTraces = false) (D : va_G) (ad : Nat → Nat) (sz : Nat)  : Met l yJ0_charAt_5068e wsJ0_charAt_5068e ({ frames := 3, cells := 0, slots := 0, locals := 70 }) (PR_ D ad [] [] sz [.ref (ad 27), .int 6]) (QR_ (.int (F_J0_charAt_5068e_6_ad27)) (va_A [] sz)) 0 0 (va_A [] sz) := by
  refine Met.ofW (cc := cJ0_charAt_5068e) (maxL := 2) (ret := (some .char)) (by decide) rfl ?_
  intro p e s m args below meth c s₁ B hml hv
  obtain ⟨rfl, hsz, hP, hK, hF⟩ := hv
  have hx := B.exec
  have hb := B.bytes
  have hr := B.returns
  have hts := atoms_spec (ws := wsJ0_charAt_5068e) B.pre
  have hown : s.vm.findClass RJ0 = some m.cls := findClass_of_methodNamed B.named
  have hlocks := B.notSynchronized
  subst hsz
  generalize hAe : va_A [] s.heap.size = A at hF ⊢
  have hA : ∀ q : Nat, s.heap.size ≤ q → A q := fun q h => by rw [← hAe]; exact Or.inr h
  obtain ⟨H, hHe⟩ : ∃ H : Heap, H = s.heap := ⟨_, rfl⟩
  have hS : va_S A s.heap H [] := by rw [hHe]; exact va_S.rf
  have hP : va_P D vwCl [] H := by rw [hHe]; exact hP
  rw [← hHe]
  have hl := lv_entry [.ref (ad 27), .int 6] (n := 2) (Nat.le_of_ble_eq_true rfl)
  rw [lg_entry_eq]
  generalize (lg_sl [.ref (ad 27), .int 6] ++ List.replicate (2 - (lg_sl [.ref (ad 27), .int 6]).length) Slot.unset).toArray = ls at hl ⊢
  have hl : lv_has ls 2 [(0, .ref (ad 27)), (1, .int 6)] := hl
  have hM : F_J0_charAt_5068e_6_ad27 = 61 := rfl
  refine lv_aload_n hx hb dJ0_charAt_5068e_0 rfl (lv_at hl 0 rfl) ?_
  refine kr_ (va_runV (As := []) (rest := []) ⟨hx, hb, hml, hown, hts⟩ (c_J0_isLatin1_aae02_ad27 l hl0 D ad H.size) (cwV 0 hts gJ0_charAt_5068e_J0_isLatin1_aae02 rfl rfl rfl (by decide +kernel) ⟨Nat.le_of_ble_eq_true rfl, Nat.le_of_ble_eq_true rfl⟩) ⟨PR_.blind, vk_recv (fxst_ hF) (i := 7) (by decide) hS, PR_.pre hF hK (hP.sub [] rfl) hS hA [] rfl⟩ rfl rfl hl.1 rfl (lv_room (Nat.le_of_ble_eq_true rfl)) dJ0_charAt_5068e_1 ⟨(Nat.le_of_ble_eq_true rfl), (Nat.le_of_ble_eq_true rfl)⟩) hP hS hA (fun H locs hP hS => ?_)
  refine W.eq (g2 := F0 m 4 ls [.int 1]) rfl ?_
  refine lv_if_eq (tgt := 16) hx hb dJ0_charAt_5068e_4 (by decide) (fun c9 => absurd c9 (by decide +kernel)) (fun _ => ?_)
  refine lv_aload_n hx hb dJ0_charAt_5068e_7 rfl (lv_at hl 0 rfl) ?_
  refine vk_getf (o := "java/lang/String") (n := "value") (d := "[B") (q := ad 27) (v := .ref (ad 47)) hx hb ((fxst_ hF).1 7 (by decide)).2.2.1 hS hown (hts (.fieldLink RJ0 9 "java/lang/String" "value" "[B") (List.mem_of_getElem? (i := 1) (by decide +kernel))) (fun _ h9 => h9) dJ0_charAt_5068e_8 ?_
  refine lv_iload_n hx hb dJ0_charAt_5068e_11 rfl (lv_at hl 1 rfl) ?_
  refine kr_ (va_runS (As := [.ref (ad 47), .int 6]) (rest := []) ⟨hx, hb, hml, hown, hts⟩ (c_J1_charAt_3b067_6_ad47 l hl0 D ad H.size) (va_cwS 2 hts gJ0_charAt_5068e_J1_charAt_3b067 rfl rfl rfl (by decide +kernel) ⟨Nat.le_of_ble_eq_true rfl, Nat.le_of_ble_eq_true rfl⟩) ⟨PR_.blind, PR_.pre hF hK (hP.sub [] rfl) hS hA [] rfl⟩ rfl rfl hl.1 rfl (lv_room (Nat.le_of_ble_eq_true rfl)) dJ0_charAt_5068e_12 ⟨(Nat.le_of_ble_eq_true rfl), (Nat.le_of_ble_eq_true rfl)⟩) hP hS hA (fun H locs hP hS => ?_)
  refine W.eq (g2 := F0 m 15 ls [.int 61]) rfl ?_
  refine W.widen (k := 0) (n := 0) (Nat.le_of_ble_eq_true rfl) (Nat.le_of_ble_eq_true rfl) ?_
  exact W.zret (v := 61) hx hb hr rfl (QR_.mk hS (by rw [hM])) hS.2.2 dJ0_charAt_5068e_15
def F_J1_charAt_3b067_7_ad47  : Int32 := 49
set_option maxHeartbeats 4000000 in
set_option maxRecDepth 100000 in
theorem c_J1_charAt_3b067_7_ad47 (l : Launch) (hl0 : l.stackTraces = false) (D : va_G) (ad : Nat → Nat) (sz : Nat)  : Met l yJ1_charAt_3b067 wsJ1_charAt_3b067 ({ frames := 2, cells := 0, slots := 0, locals := 47 }) (PR_ D ad [] [] sz [.ref (ad 47), .int 7]) (QR_ (.int (F_J1_charAt_3b067_7_ad47)) (va_A [] sz)) 0 0 (va_A [] sz) := by
  refine Met.ofW (cc := cJ1_charAt_3b067) (maxL := 2) (ret := (some .char)) (by decide) rfl ?_
  intro p e s m args below meth c s₁ B hml hv
  obtain ⟨rfl, hsz, hP, hK, hF⟩ := hv
  have hx := B.exec
  have hb := B.bytes
  have hr := B.returns
  have hts := atoms_spec (ws := wsJ1_charAt_3b067) B.pre
  have hown : s.vm.findClass RJ1 = some m.cls := findClass_of_methodNamed B.named
  have hlocks := B.notSynchronized
  subst hsz
  generalize hAe : va_A [] s.heap.size = A at hF ⊢
  have hA : ∀ q : Nat, s.heap.size ≤ q → A q := fun q h => by rw [← hAe]; exact Or.inr h
  obtain ⟨H, hHe⟩ : ∃ H : Heap, H = s.heap := ⟨_, rfl⟩
  have hS : va_S A s.heap H [] := by rw [hHe]; exact va_S.rf
  have hP : va_P D vwCl [] H := by rw [hHe]; exact hP
  rw [← hHe]
  have hl := lv_entry [.ref (ad 47), .int 7] (n := 2) (Nat.le_of_ble_eq_true rfl)
  rw [lg_entry_eq]
  generalize (lg_sl [.ref (ad 47), .int 7] ++ List.replicate (2 - (lg_sl [.ref (ad 47), .int 7]).length) Slot.unset).toArray = ls at hl ⊢
  have hl : lv_has ls 2 [(0, .ref (ad 47)), (1, .int 7)] := hl
  have hM : F_J1_charAt_3b067_7_ad47 = 49 := rfl
  refine lv_iload_n hx hb dJ1_charAt_3b067_0 rfl (lv_at hl 1 rfl) ?_
  refine lv_aload_n hx hb dJ1_charAt_3b067_1 rfl (lv_at hl 0 rfl) ?_
  refine va_tlen (v := 8) hx hb ((fxst_ hF).1 7 (by decide)).2.2.2 hS rfl dJ1_charAt_3b067_2 ?_
  refine krv_ (va_runS (As := [.int 7, .int 8]) (rest := []) ⟨hx, hb, hml, hown, hts⟩ (c_J0_checkIndex_df160 l hl0 D ad H.size 7 8 (by decide +kernel) (by decide +kernel)) (va_cwS 2 hts gJ1_charAt_3b067_J0_checkIndex_df160 rfl rfl rfl (by decide +kernel) ⟨Nat.le_of_ble_eq_true rfl, Nat.le_of_ble_eq_true rfl⟩) ⟨PR_.blind, PR_.pre hF hK (hP.sub [] rfl) hS hA [] rfl⟩ rfl rfl hl.1 rfl (lv_room (Nat.le_of_ble_eq_true rfl)) dJ1_charAt_3b067_3 ⟨(Nat.le_of_ble_eq_true rfl), (Nat.le_of_ble_eq_true rfl)⟩) hP hS hA (fun H locs hP hS => ?_)
  refine W.eq (g2 := F0 m 6 ls []) rfl ?_
  refine lv_aload_n hx hb dJ1_charAt_3b067_6 rfl (lv_at hl 0 rfl) ?_
  refine lv_iload_n hx hb dJ1_charAt_3b067_7 rfl (lv_at hl 1 rfl) ?_
  refine va_tb (v := .int 49) hx hb ((fxst_ hF).1 7 (by decide)).2.2.2 hS (vin_ (by decide +kernel)) rfl dJ1_charAt_3b067_8 ?_
  refine lv_sipush (v := 255) hx hb dJ1_charAt_3b067_9 (by decide +kernel) ?_
  refine lv_iand hx hb dJ1_charAt_3b067_12 ?_
  refine kt_ (v := 49) (by decide +kernel) ?_
  refine lv_i2c (v := 49) hx hb dJ1_charAt_3b067_13 (by decide +kernel) ?_
  refine W.widen (k := 0) (n := 0) (Nat.le_of_ble_eq_true rfl) (Nat.le_of_ble_eq_true rfl) ?_
  exact W.zret (v := 49) hx hb hr rfl (QR_.mk hS (by rw [hM])) hS.2.2 dJ1_charAt_3b067_14
def F_J0_charAt_5068e_7_ad27  : Int32 := 49
set_option maxHeartbeats 4000000 in
set_option maxRecDepth 100000 in
theorem c_J0_charAt_5068e_7_ad27 (l : Launch) (hl0 : l.stackTraces = false) (D : va_G) (ad : Nat → Nat) (sz : Nat)  : Met l yJ0_charAt_5068e wsJ0_charAt_5068e ({ frames := 3, cells := 0, slots := 0, locals := 70 }) (PR_ D ad [] [] sz [.ref (ad 27), .int 7]) (QR_ (.int (F_J0_charAt_5068e_7_ad27)) (va_A [] sz)) 0 0 (va_A [] sz) := by
  refine Met.ofW (cc := cJ0_charAt_5068e) (maxL := 2) (ret := (some .char)) (by decide) rfl ?_
  intro p e s m args below meth c s₁ B hml hv
  obtain ⟨rfl, hsz, hP, hK, hF⟩ := hv
  have hx := B.exec
  have hb := B.bytes
  have hr := B.returns
  have hts := atoms_spec (ws := wsJ0_charAt_5068e) B.pre
  have hown : s.vm.findClass RJ0 = some m.cls := findClass_of_methodNamed B.named
  have hlocks := B.notSynchronized
  subst hsz
  generalize hAe : va_A [] s.heap.size = A at hF ⊢
  have hA : ∀ q : Nat, s.heap.size ≤ q → A q := fun q h => by rw [← hAe]; exact Or.inr h
  obtain ⟨H, hHe⟩ : ∃ H : Heap, H = s.heap := ⟨_, rfl⟩
  have hS : va_S A s.heap H [] := by rw [hHe]; exact va_S.rf
  have hP : va_P D vwCl [] H := by rw [hHe]; exact hP
  rw [← hHe]
  have hl := lv_entry [.ref (ad 27), .int 7] (n := 2) (Nat.le_of_ble_eq_true rfl)
  rw [lg_entry_eq]
  generalize (lg_sl [.ref (ad 27), .int 7] ++ List.replicate (2 - (lg_sl [.ref (ad 27), .int 7]).length) Slot.unset).toArray = ls at hl ⊢
  have hl : lv_has ls 2 [(0, .ref (ad 27)), (1, .int 7)] := hl
  have hM : F_J0_charAt_5068e_7_ad27 = 49 := rfl
  refine lv_aload_n hx hb dJ0_charAt_5068e_0 rfl (lv_at hl 0 rfl) ?_
  refine kr_ (va_runV (As := []) (rest := []) ⟨hx, hb, hml, hown, hts⟩ (c_J0_isLatin1_aae02_ad27 l hl0 D ad H.size) (cwV 0 hts gJ0_charAt_5068e_J0_isLatin1_aae02 rfl rfl rfl (by decide +kernel) ⟨Nat.le_of_ble_eq_true rfl, Nat.le_of_ble_eq_true rfl⟩) ⟨PR_.blind, vk_recv (fxst_ hF) (i := 7) (by decide) hS, PR_.pre hF hK (hP.sub [] rfl) hS hA [] rfl⟩ rfl rfl hl.1 rfl (lv_room (Nat.le_of_ble_eq_true rfl)) dJ0_charAt_5068e_1 ⟨(Nat.le_of_ble_eq_true rfl), (Nat.le_of_ble_eq_true rfl)⟩) hP hS hA (fun H locs hP hS => ?_)
  refine W.eq (g2 := F0 m 4 ls [.int 1]) rfl ?_
  refine lv_if_eq (tgt := 16) hx hb dJ0_charAt_5068e_4 (by decide) (fun c9 => absurd c9 (by decide +kernel)) (fun _ => ?_)
  refine lv_aload_n hx hb dJ0_charAt_5068e_7 rfl (lv_at hl 0 rfl) ?_
  refine vk_getf (o := "java/lang/String") (n := "value") (d := "[B") (q := ad 27) (v := .ref (ad 47)) hx hb ((fxst_ hF).1 7 (by decide)).2.2.1 hS hown (hts (.fieldLink RJ0 9 "java/lang/String" "value" "[B") (List.mem_of_getElem? (i := 1) (by decide +kernel))) (fun _ h9 => h9) dJ0_charAt_5068e_8 ?_
  refine lv_iload_n hx hb dJ0_charAt_5068e_11 rfl (lv_at hl 1 rfl) ?_
  refine kr_ (va_runS (As := [.ref (ad 47), .int 7]) (rest := []) ⟨hx, hb, hml, hown, hts⟩ (c_J1_charAt_3b067_7_ad47 l hl0 D ad H.size) (va_cwS 2 hts gJ0_charAt_5068e_J1_charAt_3b067 rfl rfl rfl (by decide +kernel) ⟨Nat.le_of_ble_eq_true rfl, Nat.le_of_ble_eq_true rfl⟩) ⟨PR_.blind, PR_.pre hF hK (hP.sub [] rfl) hS hA [] rfl⟩ rfl rfl hl.1 rfl (lv_room (Nat.le_of_ble_eq_true rfl)) dJ0_charAt_5068e_12 ⟨(Nat.le_of_ble_eq_true rfl), (Nat.le_of_ble_eq_true rfl)⟩) hP hS hA (fun H locs hP hS => ?_)
  refine W.eq (g2 := F0 m 15 ls [.int 49]) rfl ?_
  refine W.widen (k := 0) (n := 0) (Nat.le_of_ble_eq_true rfl) (Nat.le_of_ble_eq_true rfl) ?_
  exact W.zret (v := 49) hx hb hr rfl (QR_.mk hS (by rw [hM])) hS.2.2 dJ0_charAt_5068e_15
def K_L_reads_16_9  : (Int32 × MS × Nat × Nat) → (Int32 × MS × Nat × Nat)
  | (y16bbbbbbb_0, y16bbbbbbb_1, y16bbbbbbb_2, y16bbbbbbb_3) => (adc y16bbbbbbb_2 y16bbbbbbb_3 (if y16bbbbbbb_0 = 8 then (K_L_reads_36_1 (F_L_commands y16bbbbbbb_1)) else ((-9999), y16bbbbbbb_1, 0, 0)))
def K_L_reads_16_10  : (Int32 × MS × Nat × Nat) → (Int32 × MS × Nat × Nat)
  | (y16bbbbbb_0, y16bbbbbb_1, y16bbbbbb_2, y16bbbbbb_3) => (adc y16bbbbbb_2 y16bbbbbb_3 (if y16bbbbbb_0 = 7 then (K_L_reads_16_9 (F_L_append y16bbbbbb_1 49)) else ((-9999), y16bbbbbb_1, 0, 0)))
def K_L_reads_16_11  : (Int32 × MS × Nat × Nat) → (Int32 × MS × Nat × Nat)
  | (y16bbbbb_0, y16bbbbb_1, y16bbbbb_2, y16bbbbb_3) => (adc y16bbbbb_2 y16bbbbb_3 (if y16bbbbb_0 = 6 then (K_L_reads_16_10 (F_L_append y16bbbbb_1 61)) else ((-9999), y16bbbbb_1, 0, 0)))
def K_L_reads_16_12  : (Int32 × MS × Nat × Nat) → (Int32 × MS × Nat × Nat)
  | (y16bbbb_0, y16bbbb_1, y16bbbb_2, y16bbbb_3) => (adc y16bbbb_2 y16bbbb_3 (if y16bbbb_0 = 5 then (K_L_reads_16_11 (F_L_append y16bbbb_1 57)) else ((-9999), y16bbbb_1, 0, 0)))
def K_L_reads_16_13  : (Int32 × MS × Nat × Nat) → (Int32 × MS × Nat × Nat)
  | (y16bbb_0, y16bbb_1, y16bbb_2, y16bbb_3) => (adc y16bbb_2 y16bbb_3 (if y16bbb_0 = 4 then (K_L_reads_16_12 (F_L_append y16bbb_1 48)) else ((-9999), y16bbb_1, 0, 0)))
def K_L_reads_16_14  : (Int32 × MS × Nat × Nat) → (Int32 × MS × Nat × Nat)
  | (y16bb_0, y16bb_1, y16bb_2, y16bb_3) => (adc y16bb_2 y16bb_3 (if y16bb_0 = 3 then (K_L_reads_16_13 (F_L_append y16bb_1 99)) else ((-9999), y16bb_1, 0, 0)))
def K_L_reads_16_15  : (Int32 × MS × Nat × Nat) → (Int32 × MS × Nat × Nat)
  | (y16b_0, y16b_1, y16b_2, y16b_3) => (adc y16b_2 y16b_3 (if y16b_0 = 2 then (K_L_reads_16_14 (F_L_append y16b_1 59)) else ((-9999), y16b_1, 0, 0)))
def K_L_reads_16_16  : (Int32 × MS × Nat × Nat) → (Int32 × MS × Nat × Nat)
  | (y16_0, y16_1, y16_2, y16_3) => (adc y16_2 y16_3 (if y16_0 = 1 then (K_L_reads_16_15 (F_L_append y16_1 51)) else ((-9999), y16_1, 0, 0)))
def F_L_reads_7 (M : MS) : Int32 × MS × Nat × Nat := (K_L_reads_16_16 (F_L_append M 116))
set_option maxHeartbeats 4000000 in
set_option maxRecDepth 100000 in
theorem bl_L_reads_7 (l : Launch) (hl0 : l.stackTraces = false) (D : va_G) (ad : Nat → Nat) (sz : Nat) (b : BX) (hBL : BL_ b) (a0 : Nat) (hb9 : b.1 79 = a0) (M : MS) (hM9 : b.2.2.2 = M) (Bd : Nat) (hXI : XI Bd M) (hBd : Bd + 36600 ≤ 900000) : Met l yL_reads wsL_reads ({ frames := 14, cells := (F_L_reads_7 M).2.2.1, slots := (F_L_reads_7 M).2.2.2, locals := 378 }) (PC_ D ad (BWW ad b) (BWT b) sz [.ref a0, .ref (ad 27)]) (QB_ D (fun _ : BX => some (.int (F_L_reads_7 M).1)) (fun b' => b'.2.2.2 = (F_L_reads_7 M).2.1 ∧ b'.1 79 = a0 ∧ BL_ b' ∧ XI (Bd + 36600) (F_L_reads_7 M).2.1) (BWW ad) BWT (va_A (BWW ad b) sz)) (F_L_reads_7 M).2.2.1 (F_L_reads_7 M).2.2.2 (va_A (BWW ad b) sz) := by
  refine Met.ofW (cc := cL_reads) (maxL := 3) (ret := (some .int)) (by decide) rfl ?_
  intro p e s m args below meth c s₁ B hml hv
  obtain ⟨rfl, hsz, hP, hK, hD0, hF⟩ := hv
  have hx := B.exec
  have hb := B.bytes
  have hr := B.returns
  have hts := atoms_spec (ws := wsL_reads) B.pre
  have hown : s.vm.findClass RL = some m.cls := findClass_of_methodNamed B.named
  have hlocks := B.notSynchronized
  subst hsz
  have hD := hD0.self (sz := s.heap.size)
  generalize hAe : va_A (BWW ad b) s.heap.size = A at hD hF ⊢
  have hA : ∀ q : Nat, s.heap.size ≤ q → A q := fun q h => by rw [← hAe]; exact Or.inr h
  obtain ⟨H, hHe⟩ : ∃ H : Heap, H = s.heap := ⟨_, rfl⟩
  have hS : va_S A s.heap H [] := by rw [hHe]; exact va_S.rf
  have hP : va_P D vwCl ([] ++ BWW ad b) H := by rw [hHe]; exact hP
  have hD : va_D A ([] ++ BWW ad b) := hD
  have hK : va_K D vwCl ([] ++ BWT b) s := hK
  rw [← hHe]
  have hl := lv_entry [.ref a0, .ref (ad 27)] (n := 3) (Nat.le_of_ble_eq_true rfl)
  rw [lg_entry_eq]
  generalize (lg_sl [.ref a0, .ref (ad 27)] ++ List.replicate (3 - (lg_sl [.ref a0, .ref (ad 27)]).length) Slot.unset).toArray = ls at hl ⊢
  have hl : lv_has ls 3 [(0, .ref a0), (1, .ref (ad 27))] := hl
  generalize hF9 : F_L_reads_7 M = FF9
  have hM : FF9 = (adc 0 0 (K_L_reads_16_16 (F_L_append M 116))) := hF9.symm.trans (adc_0 _).symm
  refine lv_iconst (v := 0) hx hb dL_reads_0 (by decide) ?_
  refine lv_istore_n (lv' := [(2, .int 0), (0, .ref a0), (1, .ref (ad 27))]) hx hb dL_reads_1 rfl hl (by decide) rfl (fun ls hl => ?_)
  refine lv_iload_n hx hb dL_reads_2 rfl (lv_at hl 0 rfl) ?_
  refine lv_aload_n hx hb dL_reads_3 rfl (lv_at hl 2 rfl) ?_
  refine kr_ (va_runV (As := []) (rest := [.int 0]) ⟨hx, hb, hml, hown, hts⟩ (c_J0_length_8abf5_ad27 l hl0 D ad H.size) (cwV 0 hts gL_reads_J0_length_8abf5 rfl rfl rfl (by decide +kernel) ⟨Nat.le_of_ble_eq_true rfl, Nat.le_of_ble_eq_true rfl⟩) ⟨PR_.blind, vk_recv (fxst_ hF) (i := 7) (by decide) hS, PR_.pre hF hK (hP.sub [] rfl) hS hA [] rfl⟩ rfl rfl hl.1 rfl (lv_room (Nat.le_of_ble_eq_true rfl)) dL_reads_4 ⟨(adc_r0 hM), (adc_s0 hM)⟩) hP hS hA (fun H locs hP hS => ?_)
  refine W.eq (g2 := F0 m 7 ls [.int 8, .int 0]) rfl ?_
  refine lv_icmp_ge (tgt := 35) hx hb dL_reads_7 (by decide) (fun c9 => absurd c9 (by decide +kernel)) (fun _ => ?_)
  refine lv_aload_n hx hb dL_reads_10 rfl (lv_at hl 1 rfl) ?_
  refine lv_aload_n hx hb dL_reads_11 rfl (lv_at hl 2 rfl) ?_
  refine lv_iload_n hx hb dL_reads_12 rfl (lv_at hl 0 rfl) ?_
  refine kr_ (va_runV (As := [.int 0]) (rest := [.ref a0]) ⟨hx, hb, hml, hown, hts⟩ (c_J0_charAt_5068e_0_ad27 l hl0 D ad H.size) (cwV 1 hts gL_reads_J0_charAt_5068e rfl rfl rfl (by decide +kernel) ⟨Nat.le_of_ble_eq_true rfl, Nat.le_of_ble_eq_true rfl⟩) ⟨PR_.blind, vk_recv (fxst_ hF) (i := 7) (by decide) hS, PR_.pre hF hK (hP.sub [] rfl) hS hA [] rfl⟩ rfl rfl hl.1 rfl (lv_room (Nat.le_of_ble_eq_true rfl)) dL_reads_13 ⟨(adc_r0 hM), (adc_s0 hM)⟩) hP hS hA (fun H locs hP hS => ?_)
  refine W.eq (g2 := F0 m 16 ls [.int 116, .ref a0]) rfl ?_
  have hcon := (bl_L_append l hl0 D ad H.size b hBL a0 hb9 M hM9 Bd hXI (show Bd ≤ 900000 from (by have z0 := hBd; omega)) 116)
  generalize hy_3 : (F_L_append M 116) = y9 at hcon hM
  obtain ⟨y16_0, y16_1, y16_2, y16_3⟩ := y9
  have hM : FF9 = (adc 0 0 (adc y16_2 y16_3 (if y16_0 = 1 then (K_L_reads_16_15 (F_L_append y16_1 51)) else ((-9999), y16_1, 0, 0)))) := hM
  refine kwb_ [] [] (vx_runSW (As := [.ref a0, .int 116]) (rest := []) ⟨hx, hb, hml, hown, hts⟩ hcon (vx_cwSW 2 hts gL_reads_L_append rfl rfl rfl (by decide +kernel) ⟨Nat.le_of_ble_eq_true rfl, Nat.le_of_ble_eq_true rfl⟩) ⟨PC_.blind, lw_pre (X := []) (Y := []) hF hK hP hD hS hA⟩ rfl rfl hl.1 rfl (lv_room (Nat.le_of_ble_eq_true rfl)) dL_reads_16 ⟨(adc_r1 hM), (adc_s1 hM)⟩) hK hP hD hS hA (fun b_3 H locs hpo hP hD hK hS => ?_)
  have hM : FF9 = (adc (0 + y16_2) (0 + y16_3) (if y16_0 = 1 then (K_L_reads_16_15 (F_L_append y16_1 51)) else ((-9999), y16_1, 0, 0))) := hM.trans (adc_adc _ _ _ _ _)
  obtain ⟨hM9_3, hb9_3, hBL_3, hXI_3⟩ := hpo
  have hM9_3 : b_3.2.2.2 = y16_1 := hM9_3
  have hXI_3 : XI Bd y16_1 := hXI_3
  have hP : va_P D vwCl ([] ++ BWW ad b_3) H := hP
  have hD : va_D A ([] ++ BWW ad b_3) := hD
  have hK : va_K D vwCl ([] ++ BWT b_3) s := hK
  refine W.eq (g2 := F0 m 19 ls [.int y16_0]) rfl ?_
  refine lv_iload_n hx hb dL_reads_19 rfl (lv_at hl 0 rfl) ?_
  refine lv_iconst (v := 1) hx hb dL_reads_20 (by decide) ?_
  refine lv_iadd hx hb dL_reads_21 ?_
  refine kt_ (v := 1) (by decide +kernel) ?_
  refine lv_icmp_eq (tgt := 29) hx hb dL_reads_22 (by decide) (fun c_4 => ?_) (fun c_4 => ?_)
  · rw [if_pos c_4] at hM
    refine lv_iinc (v := 1) (lv' := [(2, .int 1), (0, .ref a0), (1, .ref (ad 27))]) hx hb dL_reads_29 hl (k := 0) rfl (by decide +kernel) (by decide) rfl (fun ls hl => ?_)
    refine lv_goto (tgt := 2) hx hb dL_reads_32 (by decide) ?_
    refine lv_iload_n hx hb dL_reads_2 rfl (lv_at hl 0 rfl) ?_
    refine lv_aload_n hx hb dL_reads_3 rfl (lv_at hl 2 rfl) ?_
    refine kr_ (va_runV (As := []) (rest := [.int 1]) ⟨hx, hb, hml, hown, hts⟩ (c_J0_length_8abf5_ad27 l hl0 D ad H.size) (cwV 0 hts gL_reads_J0_length_8abf5 rfl rfl rfl (by decide +kernel) ⟨Nat.le_of_ble_eq_true rfl, Nat.le_of_ble_eq_true rfl⟩) ⟨PR_.blind, vk_recv (fxst_ hF) (i := 7) (by decide) hS, PR_.pre hF hK (hP.sub [] rfl) hS hA [] rfl⟩ rfl rfl hl.1 rfl (lv_room (Nat.le_of_ble_eq_true rfl)) dL_reads_4 ⟨(adc_r0 hM), (adc_s0 hM)⟩) hP hS hA (fun H locs hP hS => ?_)
    refine W.eq (g2 := F0 m 7 ls [.int 8, .int 1]) rfl ?_
    refine lv_icmp_ge (tgt := 35) hx hb dL_reads_7 (by decide) (fun c9 => absurd c9 (by decide +kernel)) (fun _ => ?_)
    refine lv_aload_n hx hb dL_reads_10 rfl (lv_at hl 1 rfl) ?_
    refine lv_aload_n hx hb dL_reads_11 rfl (lv_at hl 2 rfl) ?_
    refine lv_iload_n hx hb dL_reads_12 rfl (lv_at hl 0 rfl) ?_
    refine kr_ (va_runV (As := [.int 1]) (rest := [.ref a0]) ⟨hx, hb, hml, hown, hts⟩ (c_J0_charAt_5068e_1_ad27 l hl0 D ad H.size) (cwV 1 hts gL_reads_J0_charAt_5068e rfl rfl rfl (by decide +kernel) ⟨Nat.le_of_ble_eq_true rfl, Nat.le_of_ble_eq_true rfl⟩) ⟨PR_.blind, vk_recv (fxst_ hF) (i := 7) (by decide) hS, PR_.pre hF hK (hP.sub [] rfl) hS hA [] rfl⟩ rfl rfl hl.1 rfl (lv_room (Nat.le_of_ble_eq_true rfl)) dL_reads_13 ⟨(adc_r0 hM), (adc_s0 hM)⟩) hP hS hA (fun H locs hP hS => ?_)
    refine W.eq (g2 := F0 m 16 ls [.int 51, .ref a0]) rfl ?_
    have hcon := (bl_L_append l hl0 D ad H.size b_3 hBL_3 a0 hb9_3 y16_1 hM9_3 Bd hXI_3 (show Bd ≤ 900000 from (by have y0 := f_eq c_4; have z0 := hBd; have e_1 : (1 : Int32).toInt = 1 := (by decide +kernel); omega)) 51)
    generalize hy_7 : (F_L_append y16_1 51) = y9 at hcon hM
    obtain ⟨y16b_0, y16b_1, y16b_2, y16b_3⟩ := y9
    have hM : FF9 = (adc (0 + y16_2) (0 + y16_3) (adc y16b_2 y16b_3 (if y16b_0 = 2 then (K_L_reads_16_14 (F_L_append y16b_1 59)) else ((-9999), y16b_1, 0, 0)))) := hM
    refine kwb_ [] [] (vx_runSW (As := [.ref a0, .int 51]) (rest := []) ⟨hx, hb, hml, hown, hts⟩ hcon (vx_cwSW 2 hts gL_reads_L_append rfl rfl rfl (by decide +kernel) ⟨Nat.le_of_ble_eq_true rfl, Nat.le_of_ble_eq_true rfl⟩) ⟨PC_.blind, lw_pre (X := []) (Y := []) hF hK hP hD hS hA⟩ rfl rfl hl.1 rfl (lv_room (Nat.le_of_ble_eq_true rfl)) dL_reads_16 ⟨(adc_r1 hM), (adc_s1 hM)⟩) hK hP hD hS hA (fun b_7 H locs hpo hP hD hK hS => ?_)
    have hM : FF9 = (adc ((0 + y16_2) + y16b_2) ((0 + y16_3) + y16b_3) (if y16b_0 = 2 then (K_L_reads_16_14 (F_L_append y16b_1 59)) else ((-9999), y16b_1, 0, 0))) := hM.trans (adc_adc _ _ _ _ _)
    obtain ⟨hM9_7, hb9_7, hBL_7, hXI_7⟩ := hpo
    have hM9_7 : b_7.2.2.2 = y16b_1 := hM9_7
    have hXI_7 : XI Bd y16b_1 := hXI_7
    have hP : va_P D vwCl ([] ++ BWW ad b_7) H := hP
    have hD : va_D A ([] ++ BWW ad b_7) := hD
    have hK : va_K D vwCl ([] ++ BWT b_7) s := hK
    refine W.eq (g2 := F0 m 19 ls [.int y16b_0]) rfl ?_
    refine lv_iload_n hx hb dL_reads_19 rfl (lv_at hl 0 rfl) ?_
    refine lv_iconst (v := 1) hx hb dL_reads_20 (by decide) ?_
    refine lv_iadd hx hb dL_reads_21 ?_
    refine kt_ (v := 2) (by decide +kernel) ?_
    refine lv_icmp_eq (tgt := 29) hx hb dL_reads_22 (by decide) (fun c_8 => ?_) (fun c_8 => ?_)
    · rw [if_pos c_8] at hM
      refine lv_iinc (v := 2) (lv' := [(2, .int 2), (0, .ref a0), (1, .ref (ad 27))]) hx hb dL_reads_29 hl (k := 0) rfl (by decide +kernel) (by decide) rfl (fun ls hl => ?_)
      refine lv_goto (tgt := 2) hx hb dL_reads_32 (by decide) ?_
      refine lv_iload_n hx hb dL_reads_2 rfl (lv_at hl 0 rfl) ?_
      refine lv_aload_n hx hb dL_reads_3 rfl (lv_at hl 2 rfl) ?_
      refine kr_ (va_runV (As := []) (rest := [.int 2]) ⟨hx, hb, hml, hown, hts⟩ (c_J0_length_8abf5_ad27 l hl0 D ad H.size) (cwV 0 hts gL_reads_J0_length_8abf5 rfl rfl rfl (by decide +kernel) ⟨Nat.le_of_ble_eq_true rfl, Nat.le_of_ble_eq_true rfl⟩) ⟨PR_.blind, vk_recv (fxst_ hF) (i := 7) (by decide) hS, PR_.pre hF hK (hP.sub [] rfl) hS hA [] rfl⟩ rfl rfl hl.1 rfl (lv_room (Nat.le_of_ble_eq_true rfl)) dL_reads_4 ⟨(adc_r0 hM), (adc_s0 hM)⟩) hP hS hA (fun H locs hP hS => ?_)
      refine W.eq (g2 := F0 m 7 ls [.int 8, .int 2]) rfl ?_
      refine lv_icmp_ge (tgt := 35) hx hb dL_reads_7 (by decide) (fun c9 => absurd c9 (by decide +kernel)) (fun _ => ?_)
      refine lv_aload_n hx hb dL_reads_10 rfl (lv_at hl 1 rfl) ?_
      refine lv_aload_n hx hb dL_reads_11 rfl (lv_at hl 2 rfl) ?_
      refine lv_iload_n hx hb dL_reads_12 rfl (lv_at hl 0 rfl) ?_
      refine kr_ (va_runV (As := [.int 2]) (rest := [.ref a0]) ⟨hx, hb, hml, hown, hts⟩ (c_J0_charAt_5068e_2_ad27 l hl0 D ad H.size) (cwV 1 hts gL_reads_J0_charAt_5068e rfl rfl rfl (by decide +kernel) ⟨Nat.le_of_ble_eq_true rfl, Nat.le_of_ble_eq_true rfl⟩) ⟨PR_.blind, vk_recv (fxst_ hF) (i := 7) (by decide) hS, PR_.pre hF hK (hP.sub [] rfl) hS hA [] rfl⟩ rfl rfl hl.1 rfl (lv_room (Nat.le_of_ble_eq_true rfl)) dL_reads_13 ⟨(adc_r0 hM), (adc_s0 hM)⟩) hP hS hA (fun H locs hP hS => ?_)
      refine W.eq (g2 := F0 m 16 ls [.int 59, .ref a0]) rfl ?_
      have hcon := (bl_L_append l hl0 D ad H.size b_7 hBL_7 a0 hb9_7 y16b_1 hM9_7 Bd hXI_7 (show Bd ≤ 900000 from (by have y0 := f_eq c_4; have y1 := f_eq c_8; have z0 := hBd; have e_1 : (1 : Int32).toInt = 1 := (by decide +kernel); have e_2 : (2 : Int32).toInt = 2 := (by decide +kernel); omega)) 59)
      generalize hy_11 : (F_L_append y16b_1 59) = y9 at hcon hM
      obtain ⟨y16bb_0, y16bb_1, y16bb_2, y16bb_3⟩ := y9
      have hM : FF9 = (adc ((0 + y16_2) + y16b_2) ((0 + y16_3) + y16b_3) (adc y16bb_2 y16bb_3 (if y16bb_0 = 3 then (K_L_reads_16_13 (F_L_append y16bb_1 99)) else ((-9999), y16bb_1, 0, 0)))) := hM
      refine kwb_ [] [] (vx_runSW (As := [.ref a0, .int 59]) (rest := []) ⟨hx, hb, hml, hown, hts⟩ hcon (vx_cwSW 2 hts gL_reads_L_append rfl rfl rfl (by decide +kernel) ⟨Nat.le_of_ble_eq_true rfl, Nat.le_of_ble_eq_true rfl⟩) ⟨PC_.blind, lw_pre (X := []) (Y := []) hF hK hP hD hS hA⟩ rfl rfl hl.1 rfl (lv_room (Nat.le_of_ble_eq_true rfl)) dL_reads_16 ⟨(adc_r1 hM), (adc_s1 hM)⟩) hK hP hD hS hA (fun b_11 H locs hpo hP hD hK hS => ?_)
      have hM : FF9 = (adc (((0 + y16_2) + y16b_2) + y16bb_2) (((0 + y16_3) + y16b_3) + y16bb_3) (if y16bb_0 = 3 then (K_L_reads_16_13 (F_L_append y16bb_1 99)) else ((-9999), y16bb_1, 0, 0))) := hM.trans (adc_adc _ _ _ _ _)
      obtain ⟨hM9_11, hb9_11, hBL_11, hXI_11⟩ := hpo
      have hM9_11 : b_11.2.2.2 = y16bb_1 := hM9_11
      have hXI_11 : XI Bd y16bb_1 := hXI_11
      have hP : va_P D vwCl ([] ++ BWW ad b_11) H := hP
      have hD : va_D A ([] ++ BWW ad b_11) := hD
      have hK : va_K D vwCl ([] ++ BWT b_11) s := hK
      refine W.eq (g2 := F0 m 19 ls [.int y16bb_0]) rfl ?_
      refine lv_iload_n hx hb dL_reads_19 rfl (lv_at hl 0 rfl) ?_
      refine lv_iconst (v := 1) hx hb dL_reads_20 (by decide) ?_
      refine lv_iadd hx hb dL_reads_21 ?_
      refine kt_ (v := 3) (by decide +kernel) ?_
      refine lv_icmp_eq (tgt := 29) hx hb dL_reads_22 (by decide) (fun c_12 => ?_) (fun c_12 => ?_)
      · rw [if_pos c_12] at hM
        refine lv_iinc (v := 3) (lv' := [(2, .int 3), (0, .ref a0), (1, .ref (ad 27))]) hx hb dL_reads_29 hl (k := 0) rfl (by decide +kernel) (by decide) rfl (fun ls hl => ?_)
        refine lv_goto (tgt := 2) hx hb dL_reads_32 (by decide) ?_
        refine lv_iload_n hx hb dL_reads_2 rfl (lv_at hl 0 rfl) ?_
        refine lv_aload_n hx hb dL_reads_3 rfl (lv_at hl 2 rfl) ?_
        refine kr_ (va_runV (As := []) (rest := [.int 3]) ⟨hx, hb, hml, hown, hts⟩ (c_J0_length_8abf5_ad27 l hl0 D ad H.size) (cwV 0 hts gL_reads_J0_length_8abf5 rfl rfl rfl (by decide +kernel) ⟨Nat.le_of_ble_eq_true rfl, Nat.le_of_ble_eq_true rfl⟩) ⟨PR_.blind, vk_recv (fxst_ hF) (i := 7) (by decide) hS, PR_.pre hF hK (hP.sub [] rfl) hS hA [] rfl⟩ rfl rfl hl.1 rfl (lv_room (Nat.le_of_ble_eq_true rfl)) dL_reads_4 ⟨(adc_r0 hM), (adc_s0 hM)⟩) hP hS hA (fun H locs hP hS => ?_)
        refine W.eq (g2 := F0 m 7 ls [.int 8, .int 3]) rfl ?_
        refine lv_icmp_ge (tgt := 35) hx hb dL_reads_7 (by decide) (fun c9 => absurd c9 (by decide +kernel)) (fun _ => ?_)
        refine lv_aload_n hx hb dL_reads_10 rfl (lv_at hl 1 rfl) ?_
        refine lv_aload_n hx hb dL_reads_11 rfl (lv_at hl 2 rfl) ?_
        refine lv_iload_n hx hb dL_reads_12 rfl (lv_at hl 0 rfl) ?_
        refine kr_ (va_runV (As := [.int 3]) (rest := [.ref a0]) ⟨hx, hb, hml, hown, hts⟩ (c_J0_charAt_5068e_3_ad27 l hl0 D ad H.size) (cwV 1 hts gL_reads_J0_charAt_5068e rfl rfl rfl (by decide +kernel) ⟨Nat.le_of_ble_eq_true rfl, Nat.le_of_ble_eq_true rfl⟩) ⟨PR_.blind, vk_recv (fxst_ hF) (i := 7) (by decide) hS, PR_.pre hF hK (hP.sub [] rfl) hS hA [] rfl⟩ rfl rfl hl.1 rfl (lv_room (Nat.le_of_ble_eq_true rfl)) dL_reads_13 ⟨(adc_r0 hM), (adc_s0 hM)⟩) hP hS hA (fun H locs hP hS => ?_)
        refine W.eq (g2 := F0 m 16 ls [.int 99, .ref a0]) rfl ?_
        have hcon := (bl_L_append l hl0 D ad H.size b_11 hBL_11 a0 hb9_11 y16bb_1 hM9_11 Bd hXI_11 (show Bd ≤ 900000 from (by have y0 := f_eq c_4; have y1 := f_eq c_8; have y2 := f_eq c_12; have z0 := hBd; have e_1 : (1 : Int32).toInt = 1 := (by decide +kernel); have e_2 : (2 : Int32).toInt = 2 := (by decide +kernel); have e_3 : (3 : Int32).toInt = 3 := (by decide +kernel); omega)) 99)
        generalize hy_15 : (F_L_append y16bb_1 99) = y9 at hcon hM
        obtain ⟨y16bbb_0, y16bbb_1, y16bbb_2, y16bbb_3⟩ := y9
        have hM : FF9 = (adc (((0 + y16_2) + y16b_2) + y16bb_2) (((0 + y16_3) + y16b_3) + y16bb_3) (adc y16bbb_2 y16bbb_3 (if y16bbb_0 = 4 then (K_L_reads_16_12 (F_L_append y16bbb_1 48)) else ((-9999), y16bbb_1, 0, 0)))) := hM
        refine kwb_ [] [] (vx_runSW (As := [.ref a0, .int 99]) (rest := []) ⟨hx, hb, hml, hown, hts⟩ hcon (vx_cwSW 2 hts gL_reads_L_append rfl rfl rfl (by decide +kernel) ⟨Nat.le_of_ble_eq_true rfl, Nat.le_of_ble_eq_true rfl⟩) ⟨PC_.blind, lw_pre (X := []) (Y := []) hF hK hP hD hS hA⟩ rfl rfl hl.1 rfl (lv_room (Nat.le_of_ble_eq_true rfl)) dL_reads_16 ⟨(adc_r1 hM), (adc_s1 hM)⟩) hK hP hD hS hA (fun b_15 H locs hpo hP hD hK hS => ?_)
        have hM : FF9 = (adc ((((0 + y16_2) + y16b_2) + y16bb_2) + y16bbb_2) ((((0 + y16_3) + y16b_3) + y16bb_3) + y16bbb_3) (if y16bbb_0 = 4 then (K_L_reads_16_12 (F_L_append y16bbb_1 48)) else ((-9999), y16bbb_1, 0, 0))) := hM.trans (adc_adc _ _ _ _ _)
        obtain ⟨hM9_15, hb9_15, hBL_15, hXI_15⟩ := hpo
        have hM9_15 : b_15.2.2.2 = y16bbb_1 := hM9_15
        have hXI_15 : XI Bd y16bbb_1 := hXI_15
        have hP : va_P D vwCl ([] ++ BWW ad b_15) H := hP
        have hD : va_D A ([] ++ BWW ad b_15) := hD
        have hK : va_K D vwCl ([] ++ BWT b_15) s := hK
        refine W.eq (g2 := F0 m 19 ls [.int y16bbb_0]) rfl ?_
        refine lv_iload_n hx hb dL_reads_19 rfl (lv_at hl 0 rfl) ?_
        refine lv_iconst (v := 1) hx hb dL_reads_20 (by decide) ?_
        refine lv_iadd hx hb dL_reads_21 ?_
        refine kt_ (v := 4) (by decide +kernel) ?_
        refine lv_icmp_eq (tgt := 29) hx hb dL_reads_22 (by decide) (fun c_16 => ?_) (fun c_16 => ?_)
        · rw [if_pos c_16] at hM
          refine lv_iinc (v := 4) (lv' := [(2, .int 4), (0, .ref a0), (1, .ref (ad 27))]) hx hb dL_reads_29 hl (k := 0) rfl (by decide +kernel) (by decide) rfl (fun ls hl => ?_)
          refine lv_goto (tgt := 2) hx hb dL_reads_32 (by decide) ?_
          refine lv_iload_n hx hb dL_reads_2 rfl (lv_at hl 0 rfl) ?_
          refine lv_aload_n hx hb dL_reads_3 rfl (lv_at hl 2 rfl) ?_
          refine kr_ (va_runV (As := []) (rest := [.int 4]) ⟨hx, hb, hml, hown, hts⟩ (c_J0_length_8abf5_ad27 l hl0 D ad H.size) (cwV 0 hts gL_reads_J0_length_8abf5 rfl rfl rfl (by decide +kernel) ⟨Nat.le_of_ble_eq_true rfl, Nat.le_of_ble_eq_true rfl⟩) ⟨PR_.blind, vk_recv (fxst_ hF) (i := 7) (by decide) hS, PR_.pre hF hK (hP.sub [] rfl) hS hA [] rfl⟩ rfl rfl hl.1 rfl (lv_room (Nat.le_of_ble_eq_true rfl)) dL_reads_4 ⟨(adc_r0 hM), (adc_s0 hM)⟩) hP hS hA (fun H locs hP hS => ?_)
          refine W.eq (g2 := F0 m 7 ls [.int 8, .int 4]) rfl ?_
          refine lv_icmp_ge (tgt := 35) hx hb dL_reads_7 (by decide) (fun c9 => absurd c9 (by decide +kernel)) (fun _ => ?_)
          refine lv_aload_n hx hb dL_reads_10 rfl (lv_at hl 1 rfl) ?_
          refine lv_aload_n hx hb dL_reads_11 rfl (lv_at hl 2 rfl) ?_
          refine lv_iload_n hx hb dL_reads_12 rfl (lv_at hl 0 rfl) ?_
          refine kr_ (va_runV (As := [.int 4]) (rest := [.ref a0]) ⟨hx, hb, hml, hown, hts⟩ (c_J0_charAt_5068e_4_ad27 l hl0 D ad H.size) (cwV 1 hts gL_reads_J0_charAt_5068e rfl rfl rfl (by decide +kernel) ⟨Nat.le_of_ble_eq_true rfl, Nat.le_of_ble_eq_true rfl⟩) ⟨PR_.blind, vk_recv (fxst_ hF) (i := 7) (by decide) hS, PR_.pre hF hK (hP.sub [] rfl) hS hA [] rfl⟩ rfl rfl hl.1 rfl (lv_room (Nat.le_of_ble_eq_true rfl)) dL_reads_13 ⟨(adc_r0 hM), (adc_s0 hM)⟩) hP hS hA (fun H locs hP hS => ?_)
          refine W.eq (g2 := F0 m 16 ls [.int 48, .ref a0]) rfl ?_
          have hcon := (bl_L_append l hl0 D ad H.size b_15 hBL_15 a0 hb9_15 y16bbb_1 hM9_15 Bd hXI_15 (show Bd ≤ 900000 from (by have y0 := f_eq c_4; have y1 := f_eq c_8; have y2 := f_eq c_12; have y3 := f_eq c_16; have z0 := hBd; have e_1 : (1 : Int32).toInt = 1 := (by decide +kernel); have e_2 : (2 : Int32).toInt = 2 := (by decide +kernel); have e_3 : (3 : Int32).toInt = 3 := (by decide +kernel); have e_4 : (4 : Int32).toInt = 4 := (by decide +kernel); omega)) 48)
          generalize hy_19 : (F_L_append y16bbb_1 48) = y9 at hcon hM
          obtain ⟨y16bbbb_0, y16bbbb_1, y16bbbb_2, y16bbbb_3⟩ := y9
          have hM : FF9 = (adc ((((0 + y16_2) + y16b_2) + y16bb_2) + y16bbb_2) ((((0 + y16_3) + y16b_3) + y16bb_3) + y16bbb_3) (adc y16bbbb_2 y16bbbb_3 (if y16bbbb_0 = 5 then (K_L_reads_16_11 (F_L_append y16bbbb_1 57)) else ((-9999), y16bbbb_1, 0, 0)))) := hM
          refine kwb_ [] [] (vx_runSW (As := [.ref a0, .int 48]) (rest := []) ⟨hx, hb, hml, hown, hts⟩ hcon (vx_cwSW 2 hts gL_reads_L_append rfl rfl rfl (by decide +kernel) ⟨Nat.le_of_ble_eq_true rfl, Nat.le_of_ble_eq_true rfl⟩) ⟨PC_.blind, lw_pre (X := []) (Y := []) hF hK hP hD hS hA⟩ rfl rfl hl.1 rfl (lv_room (Nat.le_of_ble_eq_true rfl)) dL_reads_16 ⟨(adc_r1 hM), (adc_s1 hM)⟩) hK hP hD hS hA (fun b_19 H locs hpo hP hD hK hS => ?_)
          have hM : FF9 = (adc (((((0 + y16_2) + y16b_2) + y16bb_2) + y16bbb_2) + y16bbbb_2) (((((0 + y16_3) + y16b_3) + y16bb_3) + y16bbb_3) + y16bbbb_3) (if y16bbbb_0 = 5 then (K_L_reads_16_11 (F_L_append y16bbbb_1 57)) else ((-9999), y16bbbb_1, 0, 0))) := hM.trans (adc_adc _ _ _ _ _)
          obtain ⟨hM9_19, hb9_19, hBL_19, hXI_19⟩ := hpo
          have hM9_19 : b_19.2.2.2 = y16bbbb_1 := hM9_19
          have hXI_19 : XI Bd y16bbbb_1 := hXI_19
          have hP : va_P D vwCl ([] ++ BWW ad b_19) H := hP
          have hD : va_D A ([] ++ BWW ad b_19) := hD
          have hK : va_K D vwCl ([] ++ BWT b_19) s := hK
          refine W.eq (g2 := F0 m 19 ls [.int y16bbbb_0]) rfl ?_
          refine lv_iload_n hx hb dL_reads_19 rfl (lv_at hl 0 rfl) ?_
          refine lv_iconst (v := 1) hx hb dL_reads_20 (by decide) ?_
          refine lv_iadd hx hb dL_reads_21 ?_
          refine kt_ (v := 5) (by decide +kernel) ?_
          refine lv_icmp_eq (tgt := 29) hx hb dL_reads_22 (by decide) (fun c_20 => ?_) (fun c_20 => ?_)
          · rw [if_pos c_20] at hM
            refine lv_iinc (v := 5) (lv' := [(2, .int 5), (0, .ref a0), (1, .ref (ad 27))]) hx hb dL_reads_29 hl (k := 0) rfl (by decide +kernel) (by decide) rfl (fun ls hl => ?_)
            refine lv_goto (tgt := 2) hx hb dL_reads_32 (by decide) ?_
            refine lv_iload_n hx hb dL_reads_2 rfl (lv_at hl 0 rfl) ?_
            refine lv_aload_n hx hb dL_reads_3 rfl (lv_at hl 2 rfl) ?_
            refine kr_ (va_runV (As := []) (rest := [.int 5]) ⟨hx, hb, hml, hown, hts⟩ (c_J0_length_8abf5_ad27 l hl0 D ad H.size) (cwV 0 hts gL_reads_J0_length_8abf5 rfl rfl rfl (by decide +kernel) ⟨Nat.le_of_ble_eq_true rfl, Nat.le_of_ble_eq_true rfl⟩) ⟨PR_.blind, vk_recv (fxst_ hF) (i := 7) (by decide) hS, PR_.pre hF hK (hP.sub [] rfl) hS hA [] rfl⟩ rfl rfl hl.1 rfl (lv_room (Nat.le_of_ble_eq_true rfl)) dL_reads_4 ⟨(adc_r0 hM), (adc_s0 hM)⟩) hP hS hA (fun H locs hP hS => ?_)
            refine W.eq (g2 := F0 m 7 ls [.int 8, .int 5]) rfl ?_
            refine lv_icmp_ge (tgt := 35) hx hb dL_reads_7 (by decide) (fun c9 => absurd c9 (by decide +kernel)) (fun _ => ?_)
            refine lv_aload_n hx hb dL_reads_10 rfl (lv_at hl 1 rfl) ?_
            refine lv_aload_n hx hb dL_reads_11 rfl (lv_at hl 2 rfl) ?_
            refine lv_iload_n hx hb dL_reads_12 rfl (lv_at hl 0 rfl) ?_
            refine kr_ (va_runV (As := [.int 5]) (rest := [.ref a0]) ⟨hx, hb, hml, hown, hts⟩ (c_J0_charAt_5068e_5_ad27 l hl0 D ad H.size) (cwV 1 hts gL_reads_J0_charAt_5068e rfl rfl rfl (by decide +kernel) ⟨Nat.le_of_ble_eq_true rfl, Nat.le_of_ble_eq_true rfl⟩) ⟨PR_.blind, vk_recv (fxst_ hF) (i := 7) (by decide) hS, PR_.pre hF hK (hP.sub [] rfl) hS hA [] rfl⟩ rfl rfl hl.1 rfl (lv_room (Nat.le_of_ble_eq_true rfl)) dL_reads_13 ⟨(adc_r0 hM), (adc_s0 hM)⟩) hP hS hA (fun H locs hP hS => ?_)
            refine W.eq (g2 := F0 m 16 ls [.int 57, .ref a0]) rfl ?_
            have hcon := (bl_L_append l hl0 D ad H.size b_19 hBL_19 a0 hb9_19 y16bbbb_1 hM9_19 Bd hXI_19 (show Bd ≤ 900000 from (by have y0 := f_eq c_4; have y1 := f_eq c_8; have y2 := f_eq c_12; have y3 := f_eq c_16; have y4 := f_eq c_20; have z0 := hBd; have e_1 : (1 : Int32).toInt = 1 := (by decide +kernel); have e_2 : (2 : Int32).toInt = 2 := (by decide +kernel); have e_3 : (3 : Int32).toInt = 3 := (by decide +kernel); have e_4 : (4 : Int32).toInt = 4 := (by decide +kernel); have e_5 : (5 : Int32).toInt = 5 := (by decide +kernel); omega)) 57)
            generalize hy_23 : (F_L_append y16bbbb_1 57) = y9 at hcon hM
            obtain ⟨y16bbbbb_0, y16bbbbb_1, y16bbbbb_2, y16bbbbb_3⟩ := y9
            have hM : FF9 = (adc (((((0 + y16_2) + y16b_2) + y16bb_2) + y16bbb_2) + y16bbbb_2) (((((0 + y16_3) + y16b_3) + y16bb_3) + y16bbb_3) + y16bbbb_3) (adc y16bbbbb_2 y16bbbbb_3 (if y16bbbbb_0 = 6 then (K_L_reads_16_10 (F_L_append y16bbbbb_1 61)) else ((-9999), y16bbbbb_1, 0, 0)))) := hM
            refine kwb_ [] [] (vx_runSW (As := [.ref a0, .int 57]) (rest := []) ⟨hx, hb, hml, hown, hts⟩ hcon (vx_cwSW 2 hts gL_reads_L_append rfl rfl rfl (by decide +kernel) ⟨Nat.le_of_ble_eq_true rfl, Nat.le_of_ble_eq_true rfl⟩) ⟨PC_.blind, lw_pre (X := []) (Y := []) hF hK hP hD hS hA⟩ rfl rfl hl.1 rfl (lv_room (Nat.le_of_ble_eq_true rfl)) dL_reads_16 ⟨(adc_r1 hM), (adc_s1 hM)⟩) hK hP hD hS hA (fun b_23 H locs hpo hP hD hK hS => ?_)
            have hM : FF9 = (adc ((((((0 + y16_2) + y16b_2) + y16bb_2) + y16bbb_2) + y16bbbb_2) + y16bbbbb_2) ((((((0 + y16_3) + y16b_3) + y16bb_3) + y16bbb_3) + y16bbbb_3) + y16bbbbb_3) (if y16bbbbb_0 = 6 then (K_L_reads_16_10 (F_L_append y16bbbbb_1 61)) else ((-9999), y16bbbbb_1, 0, 0))) := hM.trans (adc_adc _ _ _ _ _)
            obtain ⟨hM9_23, hb9_23, hBL_23, hXI_23⟩ := hpo
            have hM9_23 : b_23.2.2.2 = y16bbbbb_1 := hM9_23
            have hXI_23 : XI Bd y16bbbbb_1 := hXI_23
            have hP : va_P D vwCl ([] ++ BWW ad b_23) H := hP
            have hD : va_D A ([] ++ BWW ad b_23) := hD
            have hK : va_K D vwCl ([] ++ BWT b_23) s := hK
            refine W.eq (g2 := F0 m 19 ls [.int y16bbbbb_0]) rfl ?_
            refine lv_iload_n hx hb dL_reads_19 rfl (lv_at hl 0 rfl) ?_
            refine lv_iconst (v := 1) hx hb dL_reads_20 (by decide) ?_
            refine lv_iadd hx hb dL_reads_21 ?_
            refine kt_ (v := 6) (by decide +kernel) ?_
            refine lv_icmp_eq (tgt := 29) hx hb dL_reads_22 (by decide) (fun c_24 => ?_) (fun c_24 => ?_)
            · rw [if_pos c_24] at hM
              refine lv_iinc (v := 6) (lv' := [(2, .int 6), (0, .ref a0), (1, .ref (ad 27))]) hx hb dL_reads_29 hl (k := 0) rfl (by decide +kernel) (by decide) rfl (fun ls hl => ?_)
              refine lv_goto (tgt := 2) hx hb dL_reads_32 (by decide) ?_
              refine lv_iload_n hx hb dL_reads_2 rfl (lv_at hl 0 rfl) ?_
              refine lv_aload_n hx hb dL_reads_3 rfl (lv_at hl 2 rfl) ?_
              refine kr_ (va_runV (As := []) (rest := [.int 6]) ⟨hx, hb, hml, hown, hts⟩ (c_J0_length_8abf5_ad27 l hl0 D ad H.size) (cwV 0 hts gL_reads_J0_length_8abf5 rfl rfl rfl (by decide +kernel) ⟨Nat.le_of_ble_eq_true rfl, Nat.le_of_ble_eq_true rfl⟩) ⟨PR_.blind, vk_recv (fxst_ hF) (i := 7) (by decide) hS, PR_.pre hF hK (hP.sub [] rfl) hS hA [] rfl⟩ rfl rfl hl.1 rfl (lv_room (Nat.le_of_ble_eq_true rfl)) dL_reads_4 ⟨(adc_r0 hM), (adc_s0 hM)⟩) hP hS hA (fun H locs hP hS => ?_)
              refine W.eq (g2 := F0 m 7 ls [.int 8, .int 6]) rfl ?_
              refine lv_icmp_ge (tgt := 35) hx hb dL_reads_7 (by decide) (fun c9 => absurd c9 (by decide +kernel)) (fun _ => ?_)
              refine lv_aload_n hx hb dL_reads_10 rfl (lv_at hl 1 rfl) ?_
              refine lv_aload_n hx hb dL_reads_11 rfl (lv_at hl 2 rfl) ?_
              refine lv_iload_n hx hb dL_reads_12 rfl (lv_at hl 0 rfl) ?_
              refine kr_ (va_runV (As := [.int 6]) (rest := [.ref a0]) ⟨hx, hb, hml, hown, hts⟩ (c_J0_charAt_5068e_6_ad27 l hl0 D ad H.size) (cwV 1 hts gL_reads_J0_charAt_5068e rfl rfl rfl (by decide +kernel) ⟨Nat.le_of_ble_eq_true rfl, Nat.le_of_ble_eq_true rfl⟩) ⟨PR_.blind, vk_recv (fxst_ hF) (i := 7) (by decide) hS, PR_.pre hF hK (hP.sub [] rfl) hS hA [] rfl⟩ rfl rfl hl.1 rfl (lv_room (Nat.le_of_ble_eq_true rfl)) dL_reads_13 ⟨(adc_r0 hM), (adc_s0 hM)⟩) hP hS hA (fun H locs hP hS => ?_)
              refine W.eq (g2 := F0 m 16 ls [.int 61, .ref a0]) rfl ?_
              have hcon := (bl_L_append l hl0 D ad H.size b_23 hBL_23 a0 hb9_23 y16bbbbb_1 hM9_23 Bd hXI_23 (show Bd ≤ 900000 from (by have y0 := f_eq c_4; have y1 := f_eq c_8; have y2 := f_eq c_12; have y3 := f_eq c_16; have y4 := f_eq c_20; have y5 := f_eq c_24; have z0 := hBd; have e_1 : (1 : Int32).toInt = 1 := (by decide +kernel); have e_2 : (2 : Int32).toInt = 2 := (by decide +kernel); have e_3 : (3 : Int32).toInt = 3 := (by decide +kernel); have e_4 : (4 : Int32).toInt = 4 := (by decide +kernel); have e_5 : (5 : Int32).toInt = 5 := (by decide +kernel); have e_6 : (6 : Int32).toInt = 6 := (by decide +kernel); omega)) 61)
              generalize hy_27 : (F_L_append y16bbbbb_1 61) = y9 at hcon hM
              obtain ⟨y16bbbbbb_0, y16bbbbbb_1, y16bbbbbb_2, y16bbbbbb_3⟩ := y9
              have hM : FF9 = (adc ((((((0 + y16_2) + y16b_2) + y16bb_2) + y16bbb_2) + y16bbbb_2) + y16bbbbb_2) ((((((0 + y16_3) + y16b_3) + y16bb_3) + y16bbb_3) + y16bbbb_3) + y16bbbbb_3) (adc y16bbbbbb_2 y16bbbbbb_3 (if y16bbbbbb_0 = 7 then (K_L_reads_16_9 (F_L_append y16bbbbbb_1 49)) else ((-9999), y16bbbbbb_1, 0, 0)))) := hM
              refine kwb_ [] [] (vx_runSW (As := [.ref a0, .int 61]) (rest := []) ⟨hx, hb, hml, hown, hts⟩ hcon (vx_cwSW 2 hts gL_reads_L_append rfl rfl rfl (by decide +kernel) ⟨Nat.le_of_ble_eq_true rfl, Nat.le_of_ble_eq_true rfl⟩) ⟨PC_.blind, lw_pre (X := []) (Y := []) hF hK hP hD hS hA⟩ rfl rfl hl.1 rfl (lv_room (Nat.le_of_ble_eq_true rfl)) dL_reads_16 ⟨(adc_r1 hM), (adc_s1 hM)⟩) hK hP hD hS hA (fun b_27 H locs hpo hP hD hK hS => ?_)
              have hM : FF9 = (adc (((((((0 + y16_2) + y16b_2) + y16bb_2) + y16bbb_2) + y16bbbb_2) + y16bbbbb_2) + y16bbbbbb_2) (((((((0 + y16_3) + y16b_3) + y16bb_3) + y16bbb_3) + y16bbbb_3) + y16bbbbb_3) + y16bbbbbb_3) (if y16bbbbbb_0 = 7 then (K_L_reads_16_9 (F_L_append y16bbbbbb_1 49)) else ((-9999), y16bbbbbb_1, 0, 0))) := hM.trans (adc_adc _ _ _ _ _)
              obtain ⟨hM9_27, hb9_27, hBL_27, hXI_27⟩ := hpo
              have hM9_27 : b_27.2.2.2 = y16bbbbbb_1 := hM9_27
              have hXI_27 : XI Bd y16bbbbbb_1 := hXI_27
              have hP : va_P D vwCl ([] ++ BWW ad b_27) H := hP
              have hD : va_D A ([] ++ BWW ad b_27) := hD
              have hK : va_K D vwCl ([] ++ BWT b_27) s := hK
              refine W.eq (g2 := F0 m 19 ls [.int y16bbbbbb_0]) rfl ?_
              refine lv_iload_n hx hb dL_reads_19 rfl (lv_at hl 0 rfl) ?_
              refine lv_iconst (v := 1) hx hb dL_reads_20 (by decide) ?_
              refine lv_iadd hx hb dL_reads_21 ?_
              refine kt_ (v := 7) (by decide +kernel) ?_
              refine lv_icmp_eq (tgt := 29) hx hb dL_reads_22 (by decide) (fun c_28 => ?_) (fun c_28 => ?_)
              · rw [if_pos c_28] at hM
                refine lv_iinc (v := 7) (lv' := [(2, .int 7), (0, .ref a0), (1, .ref (ad 27))]) hx hb dL_reads_29 hl (k := 0) rfl (by decide +kernel) (by decide) rfl (fun ls hl => ?_)
                refine lv_goto (tgt := 2) hx hb dL_reads_32 (by decide) ?_
                refine lv_iload_n hx hb dL_reads_2 rfl (lv_at hl 0 rfl) ?_
                refine lv_aload_n hx hb dL_reads_3 rfl (lv_at hl 2 rfl) ?_
                refine kr_ (va_runV (As := []) (rest := [.int 7]) ⟨hx, hb, hml, hown, hts⟩ (c_J0_length_8abf5_ad27 l hl0 D ad H.size) (cwV 0 hts gL_reads_J0_length_8abf5 rfl rfl rfl (by decide +kernel) ⟨Nat.le_of_ble_eq_true rfl, Nat.le_of_ble_eq_true rfl⟩) ⟨PR_.blind, vk_recv (fxst_ hF) (i := 7) (by decide) hS, PR_.pre hF hK (hP.sub [] rfl) hS hA [] rfl⟩ rfl rfl hl.1 rfl (lv_room (Nat.le_of_ble_eq_true rfl)) dL_reads_4 ⟨(adc_r0 hM), (adc_s0 hM)⟩) hP hS hA (fun H locs hP hS => ?_)
                refine W.eq (g2 := F0 m 7 ls [.int 8, .int 7]) rfl ?_
                refine lv_icmp_ge (tgt := 35) hx hb dL_reads_7 (by decide) (fun c9 => absurd c9 (by decide +kernel)) (fun _ => ?_)
                refine lv_aload_n hx hb dL_reads_10 rfl (lv_at hl 1 rfl) ?_
                refine lv_aload_n hx hb dL_reads_11 rfl (lv_at hl 2 rfl) ?_
                refine lv_iload_n hx hb dL_reads_12 rfl (lv_at hl 0 rfl) ?_
                refine kr_ (va_runV (As := [.int 7]) (rest := [.ref a0]) ⟨hx, hb, hml, hown, hts⟩ (c_J0_charAt_5068e_7_ad27 l hl0 D ad H.size) (cwV 1 hts gL_reads_J0_charAt_5068e rfl rfl rfl (by decide +kernel) ⟨Nat.le_of_ble_eq_true rfl, Nat.le_of_ble_eq_true rfl⟩) ⟨PR_.blind, vk_recv (fxst_ hF) (i := 7) (by decide) hS, PR_.pre hF hK (hP.sub [] rfl) hS hA [] rfl⟩ rfl rfl hl.1 rfl (lv_room (Nat.le_of_ble_eq_true rfl)) dL_reads_13 ⟨(adc_r0 hM), (adc_s0 hM)⟩) hP hS hA (fun H locs hP hS => ?_)
                refine W.eq (g2 := F0 m 16 ls [.int 49, .ref a0]) rfl ?_
                have hcon := (bl_L_append l hl0 D ad H.size b_27 hBL_27 a0 hb9_27 y16bbbbbb_1 hM9_27 Bd hXI_27 (show Bd ≤ 900000 from (by have y0 := f_eq c_4; have y1 := f_eq c_8; have y2 := f_eq c_12; have y3 := f_eq c_16; have y4 := f_eq c_20; have y5 := f_eq c_24; have y6 := f_eq c_28; have z0 := hBd; have e_1 : (1 : Int32).toInt = 1 := (by decide +kernel); have e_2 : (2 : Int32).toInt = 2 := (by decide +kernel); have e_3 : (3 : Int32).toInt = 3 := (by decide +kernel); have e_4 : (4 : Int32).toInt = 4 := (by decide +kernel); have e_5 : (5 : Int32).toInt = 5 := (by decide +kernel); have e_6 : (6 : Int32).toInt = 6 := (by decide +kernel); have e_7 : (7 : Int32).toInt = 7 := (by decide +kernel); omega)) 49)
                generalize hy_31 : (F_L_append y16bbbbbb_1 49) = y9 at hcon hM
                obtain ⟨y16bbbbbbb_0, y16bbbbbbb_1, y16bbbbbbb_2, y16bbbbbbb_3⟩ := y9
                have hM : FF9 = (adc (((((((0 + y16_2) + y16b_2) + y16bb_2) + y16bbb_2) + y16bbbb_2) + y16bbbbb_2) + y16bbbbbb_2) (((((((0 + y16_3) + y16b_3) + y16bb_3) + y16bbb_3) + y16bbbb_3) + y16bbbbb_3) + y16bbbbbb_3) (adc y16bbbbbbb_2 y16bbbbbbb_3 (if y16bbbbbbb_0 = 8 then (K_L_reads_36_1 (F_L_commands y16bbbbbbb_1)) else ((-9999), y16bbbbbbb_1, 0, 0)))) := hM
                refine kwb_ [] [] (vx_runSW (As := [.ref a0, .int 49]) (rest := []) ⟨hx, hb, hml, hown, hts⟩ hcon (vx_cwSW 2 hts gL_reads_L_append rfl rfl rfl (by decide +kernel) ⟨Nat.le_of_ble_eq_true rfl, Nat.le_of_ble_eq_true rfl⟩) ⟨PC_.blind, lw_pre (X := []) (Y := []) hF hK hP hD hS hA⟩ rfl rfl hl.1 rfl (lv_room (Nat.le_of_ble_eq_true rfl)) dL_reads_16 ⟨(adc_r1 hM), (adc_s1 hM)⟩) hK hP hD hS hA (fun b_31 H locs hpo hP hD hK hS => ?_)
                have hM : FF9 = (adc ((((((((0 + y16_2) + y16b_2) + y16bb_2) + y16bbb_2) + y16bbbb_2) + y16bbbbb_2) + y16bbbbbb_2) + y16bbbbbbb_2) ((((((((0 + y16_3) + y16b_3) + y16bb_3) + y16bbb_3) + y16bbbb_3) + y16bbbbb_3) + y16bbbbbb_3) + y16bbbbbbb_3) (if y16bbbbbbb_0 = 8 then (K_L_reads_36_1 (F_L_commands y16bbbbbbb_1)) else ((-9999), y16bbbbbbb_1, 0, 0))) := hM.trans (adc_adc _ _ _ _ _)
                obtain ⟨hM9_31, hb9_31, hBL_31, hXI_31⟩ := hpo
                have hM9_31 : b_31.2.2.2 = y16bbbbbbb_1 := hM9_31
                have hXI_31 : XI Bd y16bbbbbbb_1 := hXI_31
                have hP : va_P D vwCl ([] ++ BWW ad b_31) H := hP
                have hD : va_D A ([] ++ BWW ad b_31) := hD
                have hK : va_K D vwCl ([] ++ BWT b_31) s := hK
                refine W.eq (g2 := F0 m 19 ls [.int y16bbbbbbb_0]) rfl ?_
                refine lv_iload_n hx hb dL_reads_19 rfl (lv_at hl 0 rfl) ?_
                refine lv_iconst (v := 1) hx hb dL_reads_20 (by decide) ?_
                refine lv_iadd hx hb dL_reads_21 ?_
                refine kt_ (v := 8) (by decide +kernel) ?_
                refine lv_icmp_eq (tgt := 29) hx hb dL_reads_22 (by decide) (fun c_32 => ?_) (fun c_32 => ?_)
                · rw [if_pos c_32] at hM
                  refine lv_iinc (v := 8) (lv' := [(2, .int 8), (0, .ref a0), (1, .ref (ad 27))]) hx hb dL_reads_29 hl (k := 0) rfl (by decide +kernel) (by decide) rfl (fun ls hl => ?_)
                  refine lv_goto (tgt := 2) hx hb dL_reads_32 (by decide) ?_
                  refine lv_iload_n hx hb dL_reads_2 rfl (lv_at hl 0 rfl) ?_
                  refine lv_aload_n hx hb dL_reads_3 rfl (lv_at hl 2 rfl) ?_
                  refine kr_ (va_runV (As := []) (rest := [.int 8]) ⟨hx, hb, hml, hown, hts⟩ (c_J0_length_8abf5_ad27 l hl0 D ad H.size) (cwV 0 hts gL_reads_J0_length_8abf5 rfl rfl rfl (by decide +kernel) ⟨Nat.le_of_ble_eq_true rfl, Nat.le_of_ble_eq_true rfl⟩) ⟨PR_.blind, vk_recv (fxst_ hF) (i := 7) (by decide) hS, PR_.pre hF hK (hP.sub [] rfl) hS hA [] rfl⟩ rfl rfl hl.1 rfl (lv_room (Nat.le_of_ble_eq_true rfl)) dL_reads_4 ⟨(adc_r0 hM), (adc_s0 hM)⟩) hP hS hA (fun H locs hP hS => ?_)
                  refine W.eq (g2 := F0 m 7 ls [.int 8, .int 8]) rfl ?_
                  refine lv_icmp_ge (tgt := 35) hx hb dL_reads_7 (by decide) (fun _ => ?_) (fun c9 => absurd (by decide +kernel) c9)
                  refine lv_aload_n hx hb dL_reads_35 rfl (lv_at hl 1 rfl) ?_
                  have hcon := (bl_L_commands l hl0 D ad H.size b_31 hBL_31 a0 hb9_31 y16bbbbbbb_1 hM9_31 Bd hXI_31 (show (Bd + 36600) ≤ 900000 from (by have y0 := f_eq c_4; have y1 := f_eq c_8; have y2 := f_eq c_12; have y3 := f_eq c_16; have y4 := f_eq c_20; have y5 := f_eq c_24; have y6 := f_eq c_28; have y7 := f_eq c_32; have z0 := hBd; have e_1 : (1 : Int32).toInt = 1 := (by decide +kernel); have e_2 : (2 : Int32).toInt = 2 := (by decide +kernel); have e_3 : (3 : Int32).toInt = 3 := (by decide +kernel); have e_4 : (4 : Int32).toInt = 4 := (by decide +kernel); have e_5 : (5 : Int32).toInt = 5 := (by decide +kernel); have e_6 : (6 : Int32).toInt = 6 := (by decide +kernel); have e_7 : (7 : Int32).toInt = 7 := (by decide +kernel); have e_8 : (8 : Int32).toInt = 8 := (by decide +kernel); omega)))
                  generalize hy_34 : (F_L_commands y16bbbbbbb_1) = y9 at hcon hM
                  obtain ⟨y36_0, y36_1, y36_2, y36_3⟩ := y9
                  have hM : FF9 = (adc ((((((((0 + y16_2) + y16b_2) + y16bb_2) + y16bbb_2) + y16bbbb_2) + y16bbbbb_2) + y16bbbbbb_2) + y16bbbbbbb_2) ((((((((0 + y16_3) + y16b_3) + y16bb_3) + y16bbb_3) + y16bbbb_3) + y16bbbbb_3) + y16bbbbbb_3) + y16bbbbbbb_3) (adc y36_2 y36_3 (y36_0, y36_1, 0, 0))) := hM
                  refine kwb_ [] [] (vx_runSW (As := [.ref a0]) (rest := []) ⟨hx, hb, hml, hown, hts⟩ hcon (vx_cwSW 1 hts gL_reads_L_commands rfl rfl rfl (by decide +kernel) ⟨Nat.le_of_ble_eq_true rfl, Nat.le_of_ble_eq_true rfl⟩) ⟨PC_.blind, lw_pre (X := []) (Y := []) hF hK hP hD hS hA⟩ rfl rfl hl.1 rfl (lv_room (Nat.le_of_ble_eq_true rfl)) dL_reads_36 ⟨(adc_r1 hM), (adc_s1 hM)⟩) hK hP hD hS hA (fun b_34 H locs hpo hP hD hK hS => ?_)
                  have hM : FF9 = (adc (((((((((0 + y16_2) + y16b_2) + y16bb_2) + y16bbb_2) + y16bbbb_2) + y16bbbbb_2) + y16bbbbbb_2) + y16bbbbbbb_2) + y36_2) (((((((((0 + y16_3) + y16b_3) + y16bb_3) + y16bbb_3) + y16bbbb_3) + y16bbbbb_3) + y16bbbbbb_3) + y16bbbbbbb_3) + y36_3) (y36_0, y36_1, 0, 0)) := hM.trans (adc_adc _ _ _ _ _)
                  obtain ⟨hM9_34, hb9_34, hBL_34, hXI_34⟩ := hpo
                  have hM9_34 : b_34.2.2.2 = y36_1 := hM9_34
                  have hXI_34 : XI (Bd + 36600) y36_1 := hXI_34
                  have hP : va_P D vwCl ([] ++ BWW ad b_34) H := hP
                  have hD : va_D A ([] ++ BWW ad b_34) := hD
                  have hK : va_K D vwCl ([] ++ BWT b_34) s := hK
                  refine W.eq (g2 := F0 m 39 ls [.int y36_0]) rfl ?_
                  refine W.widen (k := (FF9).2.2.1) (n := (FF9).2.2.2) (Nat.le_of_eq (by rw [hM]; first | done | rfl)) (Nat.le_of_eq (by rw [hM]; first | done | rfl)) ?_
                  exact W.iret (v := y36_0) hx hb hr (lw_ret (X := []) (Y := []) b_34 hP hD hK hS (by rw [hM]; first | done | rfl) ⟨(by rw [hM]; exact hM9_34), hb9_34, hBL_34, (by rw [hM]; exact XI.mono hXI_34 (show (Bd + 36600) ≤ Bd + 36600 from (by have y0 := f_eq c_4; have y1 := f_eq c_8; have y2 := f_eq c_12; have y3 := f_eq c_16; have y4 := f_eq c_20; have y5 := f_eq c_24; have y6 := f_eq c_28; have y7 := f_eq c_32; have z0 := hBd; have e_1 : (1 : Int32).toInt = 1 := (by decide +kernel); have e_2 : (2 : Int32).toInt = 2 := (by decide +kernel); have e_3 : (3 : Int32).toInt = 3 := (by decide +kernel); have e_4 : (4 : Int32).toInt = 4 := (by decide +kernel); have e_5 : (5 : Int32).toInt = 5 := (by decide +kernel); have e_6 : (6 : Int32).toInt = 6 := (by decide +kernel); have e_7 : (7 : Int32).toInt = 7 := (by decide +kernel); have e_8 : (8 : Int32).toInt = 8 := (by decide +kernel); omega)))⟩) hS.2.2 dL_reads_39
                · rw [if_neg c_32] at hM
                  refine lv_sipush (v := (-9999)) hx hb dL_reads_25 (by decide +kernel) ?_
                  refine W.widen (k := (FF9).2.2.1) (n := (FF9).2.2.2) (Nat.le_of_eq (by rw [hM]; first | done | rfl)) (Nat.le_of_eq (by rw [hM]; first | done | rfl)) ?_
                  exact W.iret (v := (-9999)) hx hb hr (lw_ret (X := []) (Y := []) b_31 hP hD hK hS (by rw [hM]; first | done | rfl) ⟨(by rw [hM]; exact hM9_31), hb9_31, hBL_31, (by rw [hM]; exact XI.mono hXI_31 (show Bd ≤ Bd + 36600 from (by have y0 := f_eq c_4; have y1 := f_eq c_8; have y2 := f_eq c_12; have y3 := f_eq c_16; have y4 := f_eq c_20; have y5 := f_eq c_24; have y6 := f_eq c_28; have y7 := f_neq c_32; have z0 := hBd; have e_1 : (1 : Int32).toInt = 1 := (by decide +kernel); have e_2 : (2 : Int32).toInt = 2 := (by decide +kernel); have e_3 : (3 : Int32).toInt = 3 := (by decide +kernel); have e_4 : (4 : Int32).toInt = 4 := (by decide +kernel); have e_5 : (5 : Int32).toInt = 5 := (by decide +kernel); have e_6 : (6 : Int32).toInt = 6 := (by decide +kernel); have e_7 : (7 : Int32).toInt = 7 := (by decide +kernel); have e_8 : (8 : Int32).toInt = 8 := (by decide +kernel); omega)))⟩) hS.2.2 dL_reads_28
              · rw [if_neg c_28] at hM
                refine lv_sipush (v := (-9999)) hx hb dL_reads_25 (by decide +kernel) ?_
                refine W.widen (k := (FF9).2.2.1) (n := (FF9).2.2.2) (Nat.le_of_eq (by rw [hM]; first | done | rfl)) (Nat.le_of_eq (by rw [hM]; first | done | rfl)) ?_
                exact W.iret (v := (-9999)) hx hb hr (lw_ret (X := []) (Y := []) b_27 hP hD hK hS (by rw [hM]; first | done | rfl) ⟨(by rw [hM]; exact hM9_27), hb9_27, hBL_27, (by rw [hM]; exact XI.mono hXI_27 (show Bd ≤ Bd + 36600 from (by have y0 := f_eq c_4; have y1 := f_eq c_8; have y2 := f_eq c_12; have y3 := f_eq c_16; have y4 := f_eq c_20; have y5 := f_eq c_24; have y6 := f_neq c_28; have z0 := hBd; have e_1 : (1 : Int32).toInt = 1 := (by decide +kernel); have e_2 : (2 : Int32).toInt = 2 := (by decide +kernel); have e_3 : (3 : Int32).toInt = 3 := (by decide +kernel); have e_4 : (4 : Int32).toInt = 4 := (by decide +kernel); have e_5 : (5 : Int32).toInt = 5 := (by decide +kernel); have e_6 : (6 : Int32).toInt = 6 := (by decide +kernel); have e_7 : (7 : Int32).toInt = 7 := (by decide +kernel); omega)))⟩) hS.2.2 dL_reads_28
            · rw [if_neg c_24] at hM
              refine lv_sipush (v := (-9999)) hx hb dL_reads_25 (by decide +kernel) ?_
              refine W.widen (k := (FF9).2.2.1) (n := (FF9).2.2.2) (Nat.le_of_eq (by rw [hM]; first | done | rfl)) (Nat.le_of_eq (by rw [hM]; first | done | rfl)) ?_
              exact W.iret (v := (-9999)) hx hb hr (lw_ret (X := []) (Y := []) b_23 hP hD hK hS (by rw [hM]; first | done | rfl) ⟨(by rw [hM]; exact hM9_23), hb9_23, hBL_23, (by rw [hM]; exact XI.mono hXI_23 (show Bd ≤ Bd + 36600 from (by have y0 := f_eq c_4; have y1 := f_eq c_8; have y2 := f_eq c_12; have y3 := f_eq c_16; have y4 := f_eq c_20; have y5 := f_neq c_24; have z0 := hBd; have e_1 : (1 : Int32).toInt = 1 := (by decide +kernel); have e_2 : (2 : Int32).toInt = 2 := (by decide +kernel); have e_3 : (3 : Int32).toInt = 3 := (by decide +kernel); have e_4 : (4 : Int32).toInt = 4 := (by decide +kernel); have e_5 : (5 : Int32).toInt = 5 := (by decide +kernel); have e_6 : (6 : Int32).toInt = 6 := (by decide +kernel); omega)))⟩) hS.2.2 dL_reads_28
          · rw [if_neg c_20] at hM
            refine lv_sipush (v := (-9999)) hx hb dL_reads_25 (by decide +kernel) ?_
            refine W.widen (k := (FF9).2.2.1) (n := (FF9).2.2.2) (Nat.le_of_eq (by rw [hM]; first | done | rfl)) (Nat.le_of_eq (by rw [hM]; first | done | rfl)) ?_
            exact W.iret (v := (-9999)) hx hb hr (lw_ret (X := []) (Y := []) b_19 hP hD hK hS (by rw [hM]; first | done | rfl) ⟨(by rw [hM]; exact hM9_19), hb9_19, hBL_19, (by rw [hM]; exact XI.mono hXI_19 (show Bd ≤ Bd + 36600 from (by have y0 := f_eq c_4; have y1 := f_eq c_8; have y2 := f_eq c_12; have y3 := f_eq c_16; have y4 := f_neq c_20; have z0 := hBd; have e_1 : (1 : Int32).toInt = 1 := (by decide +kernel); have e_2 : (2 : Int32).toInt = 2 := (by decide +kernel); have e_3 : (3 : Int32).toInt = 3 := (by decide +kernel); have e_4 : (4 : Int32).toInt = 4 := (by decide +kernel); have e_5 : (5 : Int32).toInt = 5 := (by decide +kernel); omega)))⟩) hS.2.2 dL_reads_28
        · rw [if_neg c_16] at hM
          refine lv_sipush (v := (-9999)) hx hb dL_reads_25 (by decide +kernel) ?_
          refine W.widen (k := (FF9).2.2.1) (n := (FF9).2.2.2) (Nat.le_of_eq (by rw [hM]; first | done | rfl)) (Nat.le_of_eq (by rw [hM]; first | done | rfl)) ?_
          exact W.iret (v := (-9999)) hx hb hr (lw_ret (X := []) (Y := []) b_15 hP hD hK hS (by rw [hM]; first | done | rfl) ⟨(by rw [hM]; exact hM9_15), hb9_15, hBL_15, (by rw [hM]; exact XI.mono hXI_15 (show Bd ≤ Bd + 36600 from (by have y0 := f_eq c_4; have y1 := f_eq c_8; have y2 := f_eq c_12; have y3 := f_neq c_16; have z0 := hBd; have e_1 : (1 : Int32).toInt = 1 := (by decide +kernel); have e_2 : (2 : Int32).toInt = 2 := (by decide +kernel); have e_3 : (3 : Int32).toInt = 3 := (by decide +kernel); have e_4 : (4 : Int32).toInt = 4 := (by decide +kernel); omega)))⟩) hS.2.2 dL_reads_28
      · rw [if_neg c_12] at hM
        refine lv_sipush (v := (-9999)) hx hb dL_reads_25 (by decide +kernel) ?_
        refine W.widen (k := (FF9).2.2.1) (n := (FF9).2.2.2) (Nat.le_of_eq (by rw [hM]; first | done | rfl)) (Nat.le_of_eq (by rw [hM]; first | done | rfl)) ?_
        exact W.iret (v := (-9999)) hx hb hr (lw_ret (X := []) (Y := []) b_11 hP hD hK hS (by rw [hM]; first | done | rfl) ⟨(by rw [hM]; exact hM9_11), hb9_11, hBL_11, (by rw [hM]; exact XI.mono hXI_11 (show Bd ≤ Bd + 36600 from (by have y0 := f_eq c_4; have y1 := f_eq c_8; have y2 := f_neq c_12; have z0 := hBd; have e_1 : (1 : Int32).toInt = 1 := (by decide +kernel); have e_2 : (2 : Int32).toInt = 2 := (by decide +kernel); have e_3 : (3 : Int32).toInt = 3 := (by decide +kernel); omega)))⟩) hS.2.2 dL_reads_28
    · rw [if_neg c_8] at hM
      refine lv_sipush (v := (-9999)) hx hb dL_reads_25 (by decide +kernel) ?_
      refine W.widen (k := (FF9).2.2.1) (n := (FF9).2.2.2) (Nat.le_of_eq (by rw [hM]; first | done | rfl)) (Nat.le_of_eq (by rw [hM]; first | done | rfl)) ?_
      exact W.iret (v := (-9999)) hx hb hr (lw_ret (X := []) (Y := []) b_7 hP hD hK hS (by rw [hM]; first | done | rfl) ⟨(by rw [hM]; exact hM9_7), hb9_7, hBL_7, (by rw [hM]; exact XI.mono hXI_7 (show Bd ≤ Bd + 36600 from (by have y0 := f_eq c_4; have y1 := f_neq c_8; have z0 := hBd; have e_1 : (1 : Int32).toInt = 1 := (by decide +kernel); have e_2 : (2 : Int32).toInt = 2 := (by decide +kernel); omega)))⟩) hS.2.2 dL_reads_28
  · rw [if_neg c_4] at hM
    refine lv_sipush (v := (-9999)) hx hb dL_reads_25 (by decide +kernel) ?_
    refine W.widen (k := (FF9).2.2.1) (n := (FF9).2.2.2) (Nat.le_of_eq (by rw [hM]; first | done | rfl)) (Nat.le_of_eq (by rw [hM]; first | done | rfl)) ?_
    exact W.iret (v := (-9999)) hx hb hr (lw_ret (X := []) (Y := []) b_3 hP hD hK hS (by rw [hM]; first | done | rfl) ⟨(by rw [hM]; exact hM9_3), hb9_3, hBL_3, (by rw [hM]; exact XI.mono hXI_3 (show Bd ≤ Bd + 36600 from (by have y0 := f_neq c_4; have z0 := hBd; have e_1 : (1 : Int32).toInt = 1 := (by decide +kernel); omega)))⟩) hS.2.2 dL_reads_28
