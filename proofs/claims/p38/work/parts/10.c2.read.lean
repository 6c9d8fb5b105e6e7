def F_J0_coder_7d493_ad20  : Int32 := 0
set_option maxHeartbeats 4000000 in
set_option maxRecDepth 100000 in
theorem c_J0_coder_7d493_ad20 (l : Launch) (hl0 : l.stackTraces = false) (D : va_G) (ad : Nat → Nat) (sz : Nat)  : Met l yJ0_coder_7d493 wsJ0_coder_7d493 ({ frames := 0, cells := 0, slots := 0, locals := 0 }) (PR_ D ad [] [] sz [.ref (ad 20)]) (QR_ (.int (F_J0_coder_7d493_ad20)) (va_A [] sz)) 0 0 (va_A [] sz) := by
  refine Met.ofW (cc := cJ0_coder_7d493) (maxL := 1) (ret := (some .byte)) (by decide) rfl ?_
  intro p e s m args below meth c s₁ B hml hv
  obtain ⟨rfl, hsz, hP, hK, hF⟩ := hv
  have hx := B.exec
  have hb := B.bytes
  have hr := B.returns
  have hts := atoms_spec (ws := wsJ0_coder_7d493) B.pre
  have hown : s.vm.findClass RJ0 = some m.cls := findClass_of_methodNamed B.named
  have hlocks := B.notSynchronized
  subst hsz
  generalize hAe : va_A [] s.heap.size = A at hF ⊢
  have hA : ∀ q : Nat, s.heap.size ≤ q → A q := fun q h => by rw [← hAe]; exact Or.inr h
  obtain ⟨H, hHe⟩ : ∃ H : Heap, H = s.heap := ⟨_, rfl⟩
  have hS : va_S A s.heap H [] := by rw [hHe]; exact va_S.rf
  have hP : va_P D vwCl [] H := by rw [hHe]; exact hP
  rw [← hHe]
  have hl := lv_entry [.ref (ad 20)] (n := 1) (Nat.le_of_ble_eq_true rfl)
  rw [lg_entry_eq]
  generalize (lg_sl [.ref (ad 20)] ++ List.replicate (1 - (lg_sl [.ref (ad 20)]).length) Slot.unset).toArray = ls at hl ⊢
  have hl : lv_has ls 1 [(0, .ref (ad 20))] := hl
  have hM : F_J0_coder_7d493_ad20 = 0 := rfl
  refine va_gets (C := "java/lang/String") (n := "COMPACT_STRINGS") (d := "Z") (own := RJ0) (ref := "java/lang/String") (v := .int 1) hx hb hF.2.2.2.1 hS hown (hts (.fieldLink RJ0 38 "java/lang/String" "COMPACT_STRINGS" "Z") (List.mem_of_getElem? (i := 1) (by decide +kernel))) (fun _ h9 => h9) dJ0_coder_7d493_0 ?_
  refine lv_if_eq (tgt := 13) hx hb dJ0_coder_7d493_3 (by decide) (fun c9 => absurd c9 (by decide +kernel)) (fun _ => ?_)
  refine lv_aload_n hx hb dJ0_coder_7d493_6 rfl (lv_at hl 0 rfl) ?_
  refine vk_getf (o := "java/lang/String") (n := "coder") (d := "B") (q := ad 20) (v := .int 0) hx hb ((fxst_ hF).1 0 (by decide)).2.1 hS hown (hts (.fieldLink RJ0 15 "java/lang/String" "coder" "B") (List.mem_of_getElem? (i := 2) (by decide +kernel))) (fun _ h9 => h9) dJ0_coder_7d493_7 ?_
  refine lv_goto (tgt := 14) hx hb dJ0_coder_7d493_10 (by decide) ?_
  refine W.widen (k := 0) (n := 0) (Nat.le_of_ble_eq_true rfl) (Nat.le_of_ble_eq_true rfl) ?_
  exact W.zret (v := 0) hx hb hr rfl (QR_.mk hS (by rw [hM])) hS.2.2 dJ0_coder_7d493_14
def F_J0_length_8abf5_ad20  : Int32 := 0
set_option maxHeartbeats 4000000 in
set_option maxRecDepth 100000 in
theorem c_J0_length_8abf5_ad20 (l : Launch) (hl0 : l.stackTraces = false) (D : va_G) (ad : Nat → Nat) (sz : Nat)  : Met l yJ0_length_8abf5 wsJ0_length_8abf5 ({ frames := 1, cells := 0, slots := 0, locals := 22 }) (PR_ D ad [] [] sz [.ref (ad 20)]) (QR_ (.int (F_J0_length_8abf5_ad20)) (va_A [] sz)) 0 0 (va_A [] sz) := by
  refine Met.ofW (cc := cJ0_length_8abf5) (maxL := 1) (ret := (some .int)) (by decide) rfl ?_
  intro p e s m args below meth c s₁ B hml hv
  obtain ⟨rfl, hsz, hP, hK, hF⟩ := hv
  have hx := B.exec
  have hb := B.bytes
  have hr := B.returns
  have hts := atoms_spec (ws := wsJ0_length_8abf5) B.pre
  have hown : s.vm.findClass RJ0 = some m.cls := findClass_of_methodNamed B.named
  have hlocks := B.notSynchronized
  subst hsz
  generalize hAe : va_A [] s.heap.size = A at hF ⊢
  have hA : ∀ q : Nat, s.heap.size ≤ q → A q := fun q h => by rw [← hAe]; exact Or.inr h
  obtain ⟨H, hHe⟩ : ∃ H : Heap, H = s.heap := ⟨_, rfl⟩
  have hS : va_S A s.heap H [] := by rw [hHe]; exact va_S.rf
  have hP : va_P D vwCl [] H := by rw [hHe]; exact hP
  rw [← hHe]
  have hl := lv_entry [.ref (ad 20)] (n := 1) (Nat.le_of_ble_eq_true rfl)
  rw [lg_entry_eq]
  generalize (lg_sl [.ref (ad 20)] ++ List.replicate (1 - (lg_sl [.ref (ad 20)]).length) Slot.unset).toArray = ls at hl ⊢
  have hl : lv_has ls 1 [(0, .ref (ad 20))] := hl
  have hM : F_J0_length_8abf5_ad20 = 0 := rfl
  refine lv_aload_n hx hb dJ0_length_8abf5_0 rfl (lv_at hl 0 rfl) ?_
  refine vk_getf (o := "java/lang/String") (n := "value") (d := "[B") (q := ad 20) (v := .ref (ad 40)) hx hb ((fxst_ hF).1 0 (by decide)).2.2.1 hS hown (hts (.fieldLink RJ0 9 "java/lang/String" "value" "[B") (List.mem_of_getElem? (i := 1) (by decide +kernel))) (fun _ h9 => h9) dJ0_length_8abf5_1 ?_
  refine va_tlen (v := 0) hx hb ((fxst_ hF).1 0 (by decide)).2.2.2 hS rfl dJ0_length_8abf5_4 ?_
  refine lv_aload_n hx hb dJ0_length_8abf5_5 rfl (lv_at hl 0 rfl) ?_
  refine kr_ (va_runV (As := []) (rest := [.int 0]) ⟨hx, hb, hml, hown, hts⟩ (c_J0_coder_7d493_ad20 l hl0 D ad H.size) (cwV 0 hts gJ0_length_8abf5_J0_coder_7d493 rfl rfl rfl (by decide +kernel) ⟨Nat.le_of_ble_eq_true rfl, Nat.le_of_ble_eq_true rfl⟩) ⟨PR_.blind, vk_recv (fxst_ hF) (i := 0) (by decide) hS, PR_.pre hF hK (hP.sub [] rfl) hS hA [] rfl⟩ rfl rfl hl.1 rfl (lv_room (Nat.le_of_ble_eq_true rfl)) dJ0_length_8abf5_6 ⟨(Nat.le_of_ble_eq_true rfl), (Nat.le_of_ble_eq_true rfl)⟩) hP hS hA (fun H locs hP hS => ?_)
  refine W.eq (g2 := F0 m 9 ls [.int 0, .int 0]) rfl ?_
  refine lv_ishr hx hb dJ0_length_8abf5_9 ?_
  refine kt_ (v := 0) (by decide +kernel) ?_
  refine W.widen (k := 0) (n := 0) (Nat.le_of_ble_eq_true rfl) (Nat.le_of_ble_eq_true rfl) ?_
  exact W.iret (v := 0) hx hb hr (QR_.mk hS (by rw [hM])) hS.2.2 dJ0_length_8abf5_10
def F_J0_coder_7d493_ad21  : Int32 := 0
set_option maxHeartbeats 4000000 in
set_option maxRecDepth 100000 in
theorem c_J0_coder_7d493_ad21 (l : Launch) (hl0 : l.stackTraces = false) (D : va_G) (ad : Nat → Nat) (sz : Nat)  : Met l yJ0_coder_7d493 wsJ0_coder_7d493 ({ frames := 0, cells := 0, slots := 0, locals := 0 }) (PR_ D ad [] [] sz [.ref (ad 21)]) (QR_ (.int (F_J0_coder_7d493_ad21)) (va_A [] sz)) 0 0 (va_A [] sz) := by
  refine Met.ofW (cc := cJ0_coder_7d493) (maxL := 1) (ret := (some .byte)) (by decide) rfl ?_
  intro p e s m args below meth c s₁ B hml hv
  obtain ⟨rfl, hsz, hP, hK, hF⟩ := hv
  have hx := B.exec
  have hb := B.bytes
  have hr := B.returns
  have hts := atoms_spec (ws := wsJ0_coder_7d493) B.pre
  have hown : s.vm.findClass RJ0 = some m.cls := findClass_of_methodNamed B.named
  have hlocks := B.notSynchronized
  subst hsz
  generalize hAe : va_A [] s.heap.size = A at hF ⊢
  have hA : ∀ q : Nat, s.heap.size ≤ q → A q := fun q h => by rw [← hAe]; exact Or.inr h
  obtain ⟨H, hHe⟩ : ∃ H : Heap, H = s.heap := ⟨_, rfl⟩
  have hS : va_S A s.heap H [] := by rw [hHe]; exact va_S.rf
  have hP : va_P D vwCl [] H := by rw [hHe]; exact hP
  rw [← hHe]
  have hl := lv_entry [.ref (ad 21)] (n := 1) (Nat.le_of_ble_eq_true rfl)
  rw [lg_entry_eq]
  generalize (lg_sl [.ref (ad 21)] ++ List.replicate (1 - (lg_sl [.ref (ad 21)]).length) Slot.unset).toArray = ls at hl ⊢
  have hl : lv_has ls 1 [(0, .ref (ad 21))] := hl
  have hM : F_J0_coder_7d493_ad21 = 0 := rfl
  refine va_gets (C := "java/lang/String") (n := "COMPACT_STRINGS") (d := "Z") (own := RJ0) (ref := "java/lang/String") (v := .int 1) hx hb hF.2.2.2.1 hS hown (hts (.fieldLink RJ0 38 "java/lang/String" "COMPACT_STRINGS" "Z") (List.mem_of_getElem? (i := 1) (by decide +kernel))) (fun _ h9 => h9) dJ0_coder_7d493_0 ?_
  refine lv_if_eq (tgt := 13) hx hb dJ0_coder_7d493_3 (by decide) (fun c9 => absurd c9 (by decide +kernel)) (fun _ => ?_)
  refine lv_aload_n hx hb dJ0_coder_7d493_6 rfl (lv_at hl 0 rfl) ?_
  refine vk_getf (o := "java/lang/String") (n := "coder") (d := "B") (q := ad 21) (v := .int 0) hx hb ((fxst_ hF).1 1 (by decide)).2.1 hS hown (hts (.fieldLink RJ0 15 "java/lang/String" "coder" "B") (List.mem_of_getElem? (i := 2) (by decide +kernel))) (fun _ h9 => h9) dJ0_coder_7d493_7 ?_
  refine lv_goto (tgt := 14) hx hb dJ0_coder_7d493_10 (by decide) ?_
  refine W.widen (k := 0) (n := 0) (Nat.le_of_ble_eq_true rfl) (Nat.le_of_ble_eq_true rfl) ?_
  exact W.zret (v := 0) hx hb hr rfl (QR_.mk hS (by rw [hM])) hS.2.2 dJ0_coder_7d493_14
def F_J0_length_8abf5_ad21  : Int32 := 4
set_option maxHeartbeats 4000000 in
set_option maxRecDepth 100000 in
theorem c_J0_length_8abf5_ad21 (l : Launch) (hl0 : l.stackTraces = false) (D : va_G) (ad : Nat → Nat) (sz : Nat)  : Met l yJ0_length_8abf5 wsJ0_length_8abf5 ({ frames := 1, cells := 0, slots := 0, locals := 22 }) (PR_ D ad [] [] sz [.ref (ad 21)]) (QR_ (.int (F_J0_length_8abf5_ad21)) (va_A [] sz)) 0 0 (va_A [] sz) := by
  refine Met.ofW (cc := cJ0_length_8abf5) (maxL := 1) (ret := (some .int)) (by decide) rfl ?_
  intro p e s m args below meth c s₁ B hml hv
  obtain ⟨rfl, hsz, hP, hK, hF⟩ := hv
  have hx := B.exec
  have hb := B.bytes
  have hr := B.returns
  have hts := atoms_spec (ws := wsJ0_length_8abf5) B.pre
  have hown : s.vm.findClass RJ0 = some m.cls := findClass_of_methodNamed B.named
  have hlocks := B.notSynchronized
  subst hsz
  generalize hAe : va_A [] s.heap.size = A at hF ⊢
  have hA : ∀ q : Nat, s.heap.size ≤ q → A q := fun q h => by rw [← hAe]; exact Or.inr h
  obtain ⟨H, hHe⟩ : ∃ H : Heap, H = s.heap := ⟨_, rfl⟩
  have hS : va_S A s.heap H [] := by rw [hHe]; exact va_S.rf
  have hP : va_P D vwCl [] H := by rw [hHe]; exact hP
  rw [← hHe]
  have hl := lv_entry [.ref (ad 21)] (n := 1) (Nat.le_of_ble_eq_true rfl)
  rw [lg_entry_eq]
  generalize (lg_sl [.ref (ad 21)] ++ List.replicate (1 - (lg_sl [.ref (ad 21)]).length) Slot.unset).toArray = ls at hl ⊢
  have hl : lv_has ls 1 [(0, .ref (ad 21))] := hl
  have hM : F_J0_length_8abf5_ad21 = 4 := rfl
  refine lv_aload_n hx hb dJ0_length_8abf5_0 rfl (lv_at hl 0 rfl) ?_
  refine vk_getf (o := "java/lang/String") (n := "value") (d := "[B") (q := ad 21) (v := .ref (ad 41)) hx hb ((fxst_ hF).1 1 (by decide)).2.2.1 hS hown (hts (.fieldLink RJ0 9 "java/lang/String" "value" "[B") (List.mem_of_getElem? (i := 1) (by decide +kernel))) (fun _ h9 => h9) dJ0_length_8abf5_1 ?_
  refine va_tlen (v := 4) hx hb ((fxst_ hF).1 1 (by decide)).2.2.2 hS rfl dJ0_length_8abf5_4 ?_
  refine lv_aload_n hx hb dJ0_length_8abf5_5 rfl (lv_at hl 0 rfl) ?_
  refine kr_ (va_runV (As := []) (rest := [.int 4]) ⟨hx, hb, hml, hown, hts⟩ (c_J0_coder_7d493_ad21 l hl0 D ad H.size) (cwV 0 hts gJ0_length_8abf5_J0_coder_7d493 rfl rfl rfl (by decide +kernel) ⟨Nat.le_of_ble_eq_true rfl, Nat.le_of_ble_eq_true rfl⟩) ⟨PR_.blind, vk_recv (fxst_ hF) (i := 1) (by decide) hS, PR_.pre hF hK (hP.sub [] rfl) hS hA [] rfl⟩ rfl rfl hl.1 rfl (lv_room (Nat.le_of_ble_eq_true rfl)) dJ0_length_8abf5_6 ⟨(Nat.le_of_ble_eq_true rfl), (Nat.le_of_ble_eq_true rfl)⟩) hP hS hA (fun H locs hP hS => ?_)
  refine W.eq (g2 := F0 m 9 ls [.int 0, .int 4]) rfl ?_
  refine lv_ishr hx hb dJ0_length_8abf5_9 ?_
  refine kt_ (v := 4) (by decide +kernel) ?_
  refine W.widen (k := 0) (n := 0) (Nat.le_of_ble_eq_true rfl) (Nat.le_of_ble_eq_true rfl) ?_
  exact W.iret (v := 4) hx hb hr (QR_.mk hS (by rw [hM])) hS.2.2 dJ0_length_8abf5_10
def F_J0_isLatin1_aae02_ad21  : Int32 := 1
set_option maxHeartbeats 4000000 in
set_option maxRecDepth 100000 in
theorem c_J0_isLatin1_aae02_ad21 (l : Launch) (hl0 : l.stackTraces = false) (D : va_G) (ad : Nat → Nat) (sz : Nat)  : Met l yJ0_isLatin1_aae02 wsJ0_isLatin1_aae02 ({ frames := 0, cells := 0, slots := 0, locals := 0 }) (PR_ D ad [] [] sz [.ref (ad 21)]) (QR_ (.int (F_J0_isLatin1_aae02_ad21)) (va_A [] sz)) 0 0 (va_A [] sz) := by
  refine Met.ofW (cc := cJ0_isLatin1_aae02) (maxL := 1) (ret := (some .boolean)) (by decide) rfl ?_
  intro p e s m args below meth c s₁ B hml hv
  obtain ⟨rfl, hsz, hP, hK, hF⟩ := hv
  have hx := B.exec
  have hb := B.bytes
  have hr := B.returns
  have hts := atoms_spec (ws := wsJ0_isLatin1_aae02) B.pre
  have hown : s.vm.findClass RJ0 = some m.cls := findClass_of_methodNamed B.named
  have hlocks := B.notSynchronized
  subst hsz
  generalize hAe : va_A [] s.heap.size = A at hF ⊢
  have hA : ∀ q : Nat, s.heap.size ≤ q → A q := fun q h => by rw [← hAe]; exact Or.inr h
  obtain ⟨H, hHe⟩ : ∃ H : Heap, H = s.heap := ⟨_, rfl⟩
  have hS : va_S A s.heap H [] := by rw [hHe]; exact va_S.rf
  have hP : va_P D vwCl [] H := by rw [hHe]; exact hP
  rw [← hHe]
  have hl := lv_entry [.ref (ad 21)] (n := 1) (Nat.le_of_ble_eq_true rfl)
  rw [lg_entry_eq]
  generalize (lg_sl [.ref (ad 21)] ++ List.replicate (1 - (lg_sl [.ref (ad 21)]).length) Slot.unset).toArray = ls at hl ⊢
  have hl : lv_has ls 1 [(0, .ref (ad 21))] := hl
  have hM : F_J0_isLatin1_aae02_ad21 = 1 := rfl
  refine va_gets (C := "java/lang/String") (n := "COMPACT_STRINGS") (d := "Z") (own := RJ0) (ref := "java/lang/String") (v := .int 1) hx hb hF.2.2.2.1 hS hown (hts (.fieldLink RJ0 38 "java/lang/String" "COMPACT_STRINGS" "Z") (List.mem_of_getElem? (i := 1) (by decide +kernel))) (fun _ h9 => h9) dJ0_isLatin1_aae02_0 ?_
  refine lv_if_eq (tgt := 17) hx hb dJ0_isLatin1_aae02_3 (by decide) (fun c9 => absurd c9 (by decide +kernel)) (fun _ => ?_)
  refine lv_aload_n hx hb dJ0_isLatin1_aae02_6 rfl (lv_at hl 0 rfl) ?_
  refine vk_getf (o := "java/lang/String") (n := "coder") (d := "B") (q := ad 21) (v := .int 0) hx hb ((fxst_ hF).1 1 (by decide)).2.1 hS hown (hts (.fieldLink RJ0 15 "java/lang/String" "coder" "B") (List.mem_of_getElem? (i := 2) (by decide +kernel))) (fun _ h9 => h9) dJ0_isLatin1_aae02_7 ?_
  refine lv_if_ne (tgt := 17) hx hb dJ0_isLatin1_aae02_10 (by decide) (fun c9 => absurd (by decide +kernel) c9) (fun _ => ?_)
  refine lv_iconst (v := 1) hx hb dJ0_isLatin1_aae02_13 (by decide) ?_
  refine lv_goto (tgt := 18) hx hb dJ0_isLatin1_aae02_14 (by decide) ?_
  refine W.widen (k := 0) (n := 0) (Nat.le_of_ble_eq_true rfl) (Nat.le_of_ble_eq_true rfl) ?_
  exact W.zret (v := 1) hx hb hr rfl (QR_.mk hS (by rw [hM])) hS.2.2 dJ0_isLatin1_aae02_18
def F_J1_charAt_3b067_0_ad41  : Int32 := 48
set_option maxHeartbeats 4000000 in
set_option maxRecDepth 100000 in
theorem c_J1_charAt_3b067_0_ad41 (l : Launch) (hl0 : l.stackTraces = false) (D : va_G) (ad : Nat → Nat) (sz : Nat)  : Met l yJ1_charAt_3b067 wsJ1_charAt_3b067 ({ frames := 2, cells := 0, slots := 0, locals := 47 }) (PR_ D ad [] [] sz [.ref (ad 41), .int 0]) (QR_ (.int (F_J1_charAt_3b067_0_ad41)) (va_A [] sz)) 0 0 (va_A [] sz) := by
  refine Met.ofW (cc := cJ1_charAt_3b067) (maxL := 2) (ret := (some .char)) (by decide) rfl ?_
  intro p e s m args below meth c s₁ B hml hv
  obtain ⟨rfl, hsz, hP, hK, hF⟩ := hv
  have hx := B.exec
  have hb := B.bytes
  have hr := B.returns
  have hts := atoms_spec (ws := wsJ1_charAt_3b067) B.pre
  have hown : s.vm.findClass RJ1 = some m.cls := findClass_of_methodNamed B.named
  have hlocks := B.notSynchronized
  subst hsz
  generalize hAe : va_A [] s.heap.size = A at hF ⊢
  have hA : ∀ q : Nat, s.heap.size ≤ q → A q := fun q h => by rw [← hAe]; exact Or.inr h
  obtain ⟨H, hHe⟩ : ∃ H : Heap, H = s.heap := ⟨_, rfl⟩
  have hS : va_S A s.heap H [] := by rw [hHe]; exact va_S.rf
  have hP : va_P D vwCl [] H := by rw [hHe]; exact hP
  rw [← hHe]
  have hl := lv_entry [.ref (ad 41), .int 0] (n := 2) (Nat.le_of_ble_eq_true rfl)
  rw [lg_entry_eq]
  generalize (lg_sl [.ref (ad 41), .int 0] ++ List.replicate (2 - (lg_sl [.ref (ad 41), .int 0]).length) Slot.unset).toArray = ls at hl ⊢
  have hl : lv_has ls 2 [(0, .ref (ad 41)), (1, .int 0)] := hl
  have hM : F_J1_charAt_3b067_0_ad41 = 48 := rfl
  refine lv_iload_n hx hb dJ1_charAt_3b067_0 rfl (lv_at hl 1 rfl) ?_
  refine lv_aload_n hx hb dJ1_charAt_3b067_1 rfl (lv_at hl 0 rfl) ?_
  refine va_tlen (v := 4) hx hb ((fxst_ hF).1 1 (by decide)).2.2.2 hS rfl dJ1_charAt_3b067_2 ?_
  refine krv_ (va_runS (As := [.int 0, .int 4]) (rest := []) ⟨hx, hb, hml, hown, hts⟩ (c_J0_checkIndex_df160 l hl0 D ad H.size 0 4 (by decide +kernel) (by decide +kernel)) (va_cwS 2 hts gJ1_charAt_3b067_J0_checkIndex_df160 rfl rfl rfl (by decide +kernel) ⟨Nat.le_of_ble_eq_true rfl, Nat.le_of_ble_eq_true rfl⟩) ⟨PR_.blind, PR_.pre hF hK (hP.sub [] rfl) hS hA [] rfl⟩ rfl rfl hl.1 rfl (lv_room (Nat.le_of_ble_eq_true rfl)) dJ1_charAt_3b067_3 ⟨(Nat.le_of_ble_eq_true rfl), (Nat.le_of_ble_eq_true rfl)⟩) hP hS hA (fun H locs hP hS => ?_)
  refine W.eq (g2 := F0 m 6 ls []) rfl ?_
  refine lv_aload_n hx hb dJ1_charAt_3b067_6 rfl (lv_at hl 0 rfl) ?_
  refine lv_iload_n hx hb dJ1_charAt_3b067_7 rfl (lv_at hl 1 rfl) ?_
  refine va_tb (v := .int 48) hx hb ((fxst_ hF).1 1 (by decide)).2.2.2 hS (vin_ (by decide +kernel)) rfl dJ1_charAt_3b067_8 ?_
  refine lv_sipush (v := 255) hx hb dJ1_charAt_3b067_9 (by decide +kernel) ?_
  refine lv_iand hx hb dJ1_charAt_3b067_12 ?_
  refine kt_ (v := 48) (by decide +kernel) ?_
  refine lv_i2c (v := 48) hx hb dJ1_charAt_3b067_13 (by decide +kernel) ?_
  refine W.widen (k := 0) (n := 0) (Nat.le_of_ble_eq_true rfl) (Nat.le_of_ble_eq_true rfl) ?_
  exact W.zret (v := 48) hx hb hr rfl (QR_.mk hS (by rw [hM])) hS.2.2 dJ1_charAt_3b067_14
def F_J0_charAt_5068e_0_ad21  : Int32 := 48
set_option maxHeartbeats 4000000 in
set_option maxRecDepth 100000 in
theorem c_J0_charAt_5068e_0_ad21 (l : Launch) (hl0 : l.stackTraces = false) (D : va_G) (ad : Nat → Nat) (sz : Nat)  : Met l yJ0_charAt_5068e wsJ0_charAt_5068e ({ frames := 3, cells := 0, slots := 0, locals := 70 }) (PR_ D ad [] [] sz [.ref (ad 21), .int 0]) (QR_ (.int (F_J0_charAt_5068e_0_ad21)) (va_A [] sz)) 0 0 (va_A [] sz) := by
  refine Met.ofW (cc := cJ0_charAt_5068e) (maxL := 2) (ret := (some .char)) (by decide) rfl ?_
  intro p e s m args below meth c s₁ B hml hv
  obtain ⟨rfl, hsz, hP, hK, hF⟩ := hv
  have hx := B.exec
  have hb := B.bytes
  have hr := B.returns
  have hts := atoms_spec (ws := wsJ0_charAt_5068e) B.pre
  have hown : s.vm.findClass RJ0 = some m.cls := findClass_of_methodNamed B.named
  have hlocks := B.notSynchronized
  subst hsz
  generalize hAe : va_A [] s.heap.size = A at hF ⊢
  have hA : ∀ q : Nat, s.heap.size ≤ q → A q := fun q h => by rw [← hAe]; exact Or.inr h
  obtain ⟨H, hHe⟩ : ∃ H : Heap, H = s.heap := ⟨_, rfl⟩
  have hS : va_S A s.heap H [] := by rw [hHe]; exact va_S.rf
  have hP : va_P D vwCl [] H := by rw [hHe]; exact hP
  rw [← hHe]
  have hl := lv_entry [.ref (ad 21), .int 0] (n := 2) (Nat.le_of_ble_eq_true rfl)
  rw [lg_entry_eq]
  generalize (lg_sl [.ref (ad 21), .int 0] ++ List.replicate (2 - (lg_sl [.ref (ad 21), .int 0]).length) Slot.unset).toArray = ls at hl ⊢
  have hl : lv_has ls 2 [(0, .ref (ad 21)), (1, .int 0)] := hl
  have hM : F_J0_charAt_5068e_0_ad21 = 48 := rfl
  refine lv_aload_n hx hb dJ0_charAt_5068e_0 rfl (lv_at hl 0 rfl) ?_
  refine kr_ (va_runV (As := []) (rest := []) ⟨hx, hb, hml, hown, hts⟩ (c_J0_isLatin1_aae02_ad21 l hl0 D ad H.size) (cwV 0 hts gJ0_charAt_5068e_J0_isLatin1_aae02 rfl rfl rfl (by decide +kernel) ⟨Nat.le_of_ble_eq_true rfl, Nat.le_of_ble_eq_true rfl⟩) ⟨PR_.blind, vk_recv (fxst_ hF) (i := 1) (by decide) hS, PR_.pre hF hK (hP.sub [] rfl) hS hA [] rfl⟩ rfl rfl hl.1 rfl (lv_room (Nat.le_of_ble_eq_true rfl)) dJ0_charAt_5068e_1 ⟨(Nat.le_of_ble_eq_true rfl), (Nat.le_of_ble_eq_true rfl)⟩) hP hS hA (fun H locs hP hS => ?_)
  refine W.eq (g2 := F0 m 4 ls [.int 1]) rfl ?_
  refine lv_if_eq (tgt := 16) hx hb dJ0_charAt_5068e_4 (by decide) (fun c9 => absurd c9 (by decide +kernel)) (fun _ => ?_)
  refine lv_aload_n hx hb dJ0_charAt_5068e_7 rfl (lv_at hl 0 rfl) ?_
  refine vk_getf (o := "java/lang/String") (n := "value") (d := "[B") (q := ad 21) (v := .ref (ad 41)) hx hb ((fxst_ hF).1 1 (by decide)).2.2.1 hS hown (hts (.fieldLink RJ0 9 "java/lang/String" "value" "[B") (List.mem_of_getElem? (i := 1) (by decide +kernel))) (fun _ h9 => h9) dJ0_charAt_5068e_8 ?_
  refine lv_iload_n hx hb dJ0_charAt_5068e_11 rfl (lv_at hl 1 rfl) ?_
  refine kr_ (va_runS (As := [.ref (ad 41), .int 0]) (rest := []) ⟨hx, hb, hml, hown, hts⟩ (c_J1_charAt_3b067_0_ad41 l hl0 D ad H.size) (va_cwS 2 hts gJ0_charAt_5068e_J1_charAt_3b067 rfl rfl rfl (by decide +kernel) ⟨Nat.le_of_ble_eq_true rfl, Nat.le_of_ble_eq_true rfl⟩) ⟨PR_.blind, PR_.pre hF hK (hP.sub [] rfl) hS hA [] rfl⟩ rfl rfl hl.1 rfl (lv_room (Nat.le_of_ble_eq_true rfl)) dJ0_charAt_5068e_12 ⟨(Nat.le_of_ble_eq_true rfl), (Nat.le_of_ble_eq_true rfl)⟩) hP hS hA (fun H locs hP hS => ?_)
  refine W.eq (g2 := F0 m 15 ls [.int 48]) rfl ?_
  refine W.widen (k := 0) (n := 0) (Nat.le_of_ble_eq_true rfl) (Nat.le_of_ble_eq_true rfl) ?_
  exact W.zret (v := 48) hx hb hr rfl (QR_.mk hS (by rw [hM])) hS.2.2 dJ0_charAt_5068e_15
def F_X3_readPart_48 (sg : Nat → Int32) (ln : Int32) (pl : Int32) (nu : Nat → Int32) : Int32 × (Nat → Int32) × Int32 := (if pl < 0 then (0, nu, pl) else (if ln ≤ pl then (0, nu, pl) else (if (sg (ix pl)) < 48 then (0, nu, pl) else (if 57 < (sg (ix pl)) then (0, nu, pl) else (1, (upd nu 0 ((((nu 0) * 10) + (sg (ix pl))) - 48)), (pl + 1))))))
set_option maxHeartbeats 4000000 in
set_option maxRecDepth 100000 in
theorem c_X3_readPart_48 (l : Launch) (hl0 : l.stackTraces = false) (D : va_G) (ad : Nat → Nat) (sz : Nat) (h_sg : Nat) (h_nu : Nat) (h_T : Nat) (k_sg : ClassId) (k_nu : ClassId) (h_T_3 : Value) (sg : Nat → Int32) (nu : Nat → Int32) (ln : Int32) (pl : Int32) (hy0 : 0 ≤ ln.toInt) (hy1 : ln.toInt ≤ 60) (hy2 : 0 ≤ pl.toInt) (hy3 : pl.toInt ≤ 200) : Met l yX3_readPart wsX3_readPart ({ frames := 0, cells := 0, slots := 0, locals := 0 }) (PC_ D ad [(h_sg, .inl (k_sg, 60, .inl sg)), (h_nu, .inl (k_nu, 3, .inl nu)), (h_T, .inr (6, [.ref h_sg, .int ln, .int pl, h_T_3, .ref h_nu]))] [(k_sg, .char), (k_nu, .int)] sz [.ref h_T, .int 48]) (QG_ D (fun q i => some (.int (F_X3_readPart_48 sg ln pl nu).1)) (fun q i => pl.toInt ≤ ((F_X3_readPart_48 sg ln pl nu).2.2).toInt ∧ ((F_X3_readPart_48 sg ln pl nu).2.2).toInt ≤ pl.toInt + 1 ∧ (((F_X3_readPart_48 sg ln pl nu).2.2).toInt ≤ 60 ∨ ((F_X3_readPart_48 sg ln pl nu).2.2).toInt = pl.toInt)) (fun q k i => [(h_sg, .inl (k_sg, 60, .inl sg)), (h_nu, .inl (k_nu, 3, .inl (F_X3_readPart_48 sg ln pl nu).2.1)), (h_T, .inr (6, [.ref h_sg, .int ln, .int (F_X3_readPart_48 sg ln pl nu).2.2, h_T_3, .ref h_nu]))]) (fun q k i => [(k_sg, .char), (k_nu, .int)]) (va_A [(h_sg, .inl (k_sg, 60, .inl sg)), (h_nu, .inl (k_nu, 3, .inl nu)), (h_T, .inr (6, [.ref h_sg, .int ln, .int pl, h_T_3, .ref h_nu]))] sz)) 0 0 (va_A [(h_sg, .inl (k_sg, 60, .inl sg)), (h_nu, .inl (k_nu, 3, .inl nu)), (h_T, .inr (6, [.ref h_sg, .int ln, .int pl, h_T_3, .ref h_nu]))] sz) := by
  refine Met.ofW (cc := cX3_readPart) (maxL := 5) (ret := (some .boolean)) (by decide) rfl ?_
  intro p e s m args below meth c s₁ B hml hv
  obtain ⟨rfl, hsz, hP, hK, hD0, hF⟩ := hv
  have hx := B.exec
  have hb := B.bytes
  have hr := B.returns
  have hts := atoms_spec (ws := wsX3_readPart) B.pre
  have hown : s.vm.findClass RX3 = some m.cls := findClass_of_methodNamed B.named
  have hlocks := B.notSynchronized
  subst hsz
  have hD := hD0.self (sz := s.heap.size)
  generalize hAe : va_A [(h_sg, .inl (k_sg, 60, .inl sg)), (h_nu, .inl (k_nu, 3, .inl nu)), (h_T, .inr (6, [.ref h_sg, .int ln, .int pl, h_T_3, .ref h_nu]))] s.heap.size = A at hD hF ⊢
  have hA : ∀ q : Nat, s.heap.size ≤ q → A q := fun q h => by rw [← hAe]; exact Or.inr h
  obtain ⟨H, hHe⟩ : ∃ H : Heap, H = s.heap := ⟨_, rfl⟩
  have hS : va_S A s.heap H [] := by rw [hHe]; exact va_S.rf
  have hP : va_P D vwCl [(h_sg, .inl (k_sg, 60, .inl sg)), (h_nu, .inl (k_nu, 3, .inl nu)), (h_T, .inr (6, [.ref h_sg, .int ln, .int pl, h_T_3, .ref h_nu]))] H := by rw [hHe]; exact hP
  rw [← hHe]
  have hi_X3 : ∀ w ∈ wsX30, w ∈ wsX3_readPart := by decide +kernel
  have hl := lv_entry [.ref h_T, .int 48] (n := 5) (Nat.le_of_ble_eq_true rfl)
  rw [lg_entry_eq]
  generalize (lg_sl [.ref h_T, .int 48] ++ List.replicate (5 - (lg_sl [.ref h_T, .int 48]).length) Slot.unset).toArray = ls at hl ⊢
  have hl : lv_has ls 5 [(0, .ref h_T), (1, .int 48)] := hl
  have hM : F_X3_readPart_48 sg ln pl nu = (if pl < 0 then (0, nu, pl) else (if ln ≤ pl then (0, nu, pl) else (if (sg (ix pl)) < 48 then (0, nu, pl) else (if 57 < (sg (ix pl)) then (0, nu, pl) else (1, (upd nu 0 ((((nu 0) * 10) + (sg (ix pl))) - 48)), (pl + 1)))))) := rfl
  refine lv_aload_n hx hb dX3_readPart_0 rfl (lv_at hl 0 rfl) ?_
  refine va_get (D := D) (ci := 6) (v := .int pl) (own := RX3) (C := RX3) (T := TX3) (N := 5) hx hb hts hi_X3 hown hK hP 2 rfl rfl 2 (by decide) (hts (.fieldLink RX3 19 "CanalMaps$CommandText" "place" "I") (List.mem_of_getElem? (i := 1) (by decide +kernel))) (fun _ h9 => h9) rfl dX3_readPart_1 ?_
  refine lv_if_lt (tgt := 30) hx hb dX3_readPart_4 (by decide) (fun c_1 => ?_) (fun c_1 => ?_)
  · rw [if_pos c_1] at hM
    refine lv_bipush (v := 32) hx hb dX3_readPart_30 (by decide) ?_
    refine lv_istore_n (lv' := [(2, .int 32), (0, .ref h_T), (1, .int 48)]) hx hb dX3_readPart_32 rfl hl (by decide) rfl (fun ls hl => ?_)
    refine lv_iload_n hx hb dX3_readPart_33 rfl (lv_at hl 0 rfl) ?_
    refine lv_bipush (v := 48) hx hb dX3_readPart_34 (by decide) ?_
    refine lv_icmp_lt (tgt := 49) hx hb dX3_readPart_36 (by decide) (fun _ => ?_) (fun c9 => absurd (by decide +kernel) c9)
    refine lv_iconst (v := 0) hx hb dX3_readPart_49 (by decide) ?_
    refine lv_istore_n (lv' := [(3, .int 0), (2, .int 32), (0, .ref h_T), (1, .int 48)]) hx hb dX3_readPart_50 rfl hl (by decide) rfl (fun ls hl => ?_)
    refine lv_iload_n hx hb dX3_readPart_51 rfl (lv_at hl 3 rfl) ?_
    refine lv_bipush (v := 61) hx hb dX3_readPart_52 (by decide) ?_
    refine lv_icmp_ne (tgt := 89) hx hb dX3_readPart_54 (by decide) (fun _ => ?_) (fun c9 => absurd c9 (by decide +kernel))
    refine lv_iload_n hx hb dX3_readPart_89 rfl (lv_at hl 0 rfl) ?_
    refine lv_if_ne (tgt := 105) hx hb dX3_readPart_90 (by decide) (fun c9 => absurd (by decide +kernel) c9) (fun _ => ?_)
    refine lv_iload_n hx hb dX3_readPart_93 rfl (lv_at hl 3 rfl) ?_
    refine lv_bipush (v := 63) hx hb dX3_readPart_94 (by decide) ?_
    refine lv_icmp_ne (tgt := 103) hx hb dX3_readPart_96 (by decide) (fun _ => ?_) (fun c9 => absurd c9 (by decide +kernel))
    refine lv_iconst (v := 0) hx hb dX3_readPart_103 (by decide) ?_
    refine W.widen (k := 0) (n := 0) (Nat.le_of_ble_eq_true rfl) (Nat.le_of_ble_eq_true rfl) ?_
    exact W.zret (v := 0) hx hb hr rfl (QG_.mk (fun _ => 0) (fun _ => 0) (fun _ => 0) [0, 1, 2] [0, 1] hP hD hK hS (by rw [hM]) (by rw [hM]; exact ⟨(show pl.toInt ≤ pl.toInt from (by have y0 := f_lt c_1; have z0 := hy0; have z1 := hy1; have z2 := hy2; have z3 := hy3; have e_0 : (0 : Int32).toInt = 0 := (by decide +kernel); have b4 := Int32.toInt_lt (pl); have d4 := Int32.le_toInt (pl); omega)), (show pl.toInt ≤ pl.toInt + 1 from (by have y0 := f_lt c_1; have z0 := hy0; have z1 := hy1; have z2 := hy2; have z3 := hy3; have e_0 : (0 : Int32).toInt = 0 := (by decide +kernel); have b5 := Int32.toInt_lt (pl); have d5 := Int32.le_toInt (pl); omega)), (show (pl.toInt ≤ 60 ∨ pl.toInt = pl.toInt) from (by have y0 := f_lt c_1; have z0 := hy0; have z1 := hy1; have z2 := hy2; have z3 := hy3; have e_0 : (0 : Int32).toInt = 0 := (by decide +kernel); have b6 := Int32.toInt_lt (pl); have d6 := Int32.le_toInt (pl); have b7 := Int32.toInt_lt (pl); have d7 := Int32.le_toInt (pl); omega))⟩) (by first | (rw [hM]; rfl) | rfl) (by decide) rfl) hS.2.2 dX3_readPart_104
  · rw [if_neg c_1] at hM
    refine lv_aload_n hx hb dX3_readPart_7 rfl (lv_at hl 0 rfl) ?_
    refine va_get (D := D) (ci := 6) (v := .int pl) (own := RX3) (C := RX3) (T := TX3) (N := 5) hx hb hts hi_X3 hown hK hP 2 rfl rfl 2 (by decide) (hts (.fieldLink RX3 19 "CanalMaps$CommandText" "place" "I") (List.mem_of_getElem? (i := 1) (by decide +kernel))) (fun _ h9 => h9) rfl dX3_readPart_8 ?_
    refine lv_aload_n hx hb dX3_readPart_11 rfl (lv_at hl 0 rfl) ?_
    refine va_get (D := D) (ci := 6) (v := .int ln) (own := RX3) (C := RX3) (T := TX3) (N := 5) hx hb hts hi_X3 hown hK hP 2 rfl rfl 1 (by decide) (hts (.fieldLink RX3 15 "CanalMaps$CommandText" "length" "I") (List.mem_of_getElem? (i := 2) (by decide +kernel))) (fun _ h9 => h9) rfl dX3_readPart_12 ?_
    refine lv_icmp_ge (tgt := 30) hx hb dX3_readPart_15 (by decide) (fun c_2 => ?_) (fun c_2 => ?_)
    · rw [if_pos c_2] at hM
      refine lv_bipush (v := 32) hx hb dX3_readPart_30 (by decide) ?_
      refine lv_istore_n (lv' := [(2, .int 32), (0, .ref h_T), (1, .int 48)]) hx hb dX3_readPart_32 rfl hl (by decide) rfl (fun ls hl => ?_)
      refine lv_iload_n hx hb dX3_readPart_33 rfl (lv_at hl 0 rfl) ?_
      refine lv_bipush (v := 48) hx hb dX3_readPart_34 (by decide) ?_
      refine lv_icmp_lt (tgt := 49) hx hb dX3_readPart_36 (by decide) (fun _ => ?_) (fun c9 => absurd (by decide +kernel) c9)
      refine lv_iconst (v := 0) hx hb dX3_readPart_49 (by decide) ?_
      refine lv_istore_n (lv' := [(3, .int 0), (2, .int 32), (0, .ref h_T), (1, .int 48)]) hx hb dX3_readPart_50 rfl hl (by decide) rfl (fun ls hl => ?_)
      refine lv_iload_n hx hb dX3_readPart_51 rfl (lv_at hl 3 rfl) ?_
      refine lv_bipush (v := 61) hx hb dX3_readPart_52 (by decide) ?_
      refine lv_icmp_ne (tgt := 89) hx hb dX3_readPart_54 (by decide) (fun _ => ?_) (fun c9 => absurd c9 (by decide +kernel))
      refine lv_iload_n hx hb dX3_readPart_89 rfl (lv_at hl 0 rfl) ?_
      refine lv_if_ne (tgt := 105) hx hb dX3_readPart_90 (by decide) (fun c9 => absurd (by decide +kernel) c9) (fun _ => ?_)
      refine lv_iload_n hx hb dX3_readPart_93 rfl (lv_at hl 3 rfl) ?_
      refine lv_bipush (v := 63) hx hb dX3_readPart_94 (by decide) ?_
      refine lv_icmp_ne (tgt := 103) hx hb dX3_readPart_96 (by decide) (fun _ => ?_) (fun c9 => absurd c9 (by decide +kernel))
      refine lv_iconst (v := 0) hx hb dX3_readPart_103 (by decide) ?_
      refine W.widen (k := 0) (n := 0) (Nat.le_of_ble_eq_true rfl) (Nat.le_of_ble_eq_true rfl) ?_
      exact W.zret (v := 0) hx hb hr rfl (QG_.mk (fun _ => 0) (fun _ => 0) (fun _ => 0) [0, 1, 2] [0, 1] hP hD hK hS (by rw [hM]) (by rw [hM]; exact ⟨(show pl.toInt ≤ pl.toInt from (by have y0 := f_nlt c_1; have y1 := f_le c_2; have z0 := hy0; have z1 := hy1; have z2 := hy2; have z3 := hy3; have e_0 : (0 : Int32).toInt = 0 := (by decide +kernel); have b8 := Int32.toInt_lt (pl); have d8 := Int32.le_toInt (pl); omega)), (show pl.toInt ≤ pl.toInt + 1 from (by have y0 := f_nlt c_1; have y1 := f_le c_2; have z0 := hy0; have z1 := hy1; have z2 := hy2; have z3 := hy3; have e_0 : (0 : Int32).toInt = 0 := (by decide +kernel); have b9 := Int32.toInt_lt (pl); have d9 := Int32.le_toInt (pl); omega)), (show (pl.toInt ≤ 60 ∨ pl.toInt = pl.toInt) from (by have y0 := f_nlt c_1; have y1 := f_le c_2; have z0 := hy0; have z1 := hy1; have z2 := hy2; have z3 := hy3; have e_0 : (0 : Int32).toInt = 0 := (by decide +kernel); have b10 := Int32.toInt_lt (pl); have d10 := Int32.le_toInt (pl); have b11 := Int32.toInt_lt (pl); have d11 := Int32.le_toInt (pl); omega))⟩) (by first | (rw [hM]; rfl) | rfl) (by decide) rfl) hS.2.2 dX3_readPart_104
    · rw [if_neg c_2] at hM
      refine lv_aload_n hx hb dX3_readPart_18 rfl (lv_at hl 0 rfl) ?_
      refine va_get (D := D) (ci := 6) (v := .ref h_sg) (own := RX3) (C := RX3) (T := TX3) (N := 5) hx hb hts hi_X3 hown hK hP 2 rfl rfl 0 (by decide) (hts (.fieldLink RX3 9 "CanalMaps$CommandText" "signs" "[C") (List.mem_of_getElem? (i := 3) (by decide +kernel))) (fun _ h9 => h9) rfl dX3_readPart_19 ?_
      refine lv_aload_n hx hb dX3_readPart_22 rfl (lv_at hl 0 rfl) ?_
      refine va_get (D := D) (ci := 6) (v := .int pl) (own := RX3) (C := RX3) (T := TX3) (N := 5) hx hb hts hi_X3 hown hK hP 2 rfl rfl 2 (by decide) (hts (.fieldLink RX3 19 "CanalMaps$CommandText" "place" "I") (List.mem_of_getElem? (i := 1) (by decide +kernel))) (fun _ h9 => h9) rfl dX3_readPart_23 ?_
      refine va_cald hx hb hK hP 0 0 rfl rfl (vinI (by have y0 := f_nlt c_1; have y1 := f_nle c_2; have z0 := hy0; have z1 := hy1; have z2 := hy2; have z3 := hy3; have e_0 : (0 : Int32).toInt = 0 := (by decide +kernel); have b12 := Int32.toInt_lt (pl); have d12 := Int32.le_toInt (pl); omega) (by have y0 := f_nlt c_1; have y1 := f_nle c_2; have z0 := hy0; have z1 := hy1; have z2 := hy2; have z3 := hy3; have e_0 : (0 : Int32).toInt = 0 := (by decide +kernel); have b12 := Int32.toInt_lt (pl); have d12 := Int32.le_toInt (pl); omega)) dX3_readPart_26 ?_
      refine kt_ (v := (sg (ix pl))) rfl ?_
      refine lv_goto (tgt := 32) hx hb dX3_readPart_27 (by decide) ?_
      refine lv_istore_n (lv' := [(2, .int (sg (ix pl))), (0, .ref h_T), (1, .int 48)]) hx hb dX3_readPart_32 rfl hl (by decide) rfl (fun ls hl => ?_)
      refine lv_iload_n hx hb dX3_readPart_33 rfl (lv_at hl 0 rfl) ?_
      refine lv_bipush (v := 48) hx hb dX3_readPart_34 (by decide) ?_
      refine lv_icmp_lt (tgt := 49) hx hb dX3_readPart_36 (by decide) (fun c_3 => ?_) (fun c_3 => ?_)
      · rw [if_pos c_3] at hM
        refine lv_iconst (v := 0) hx hb dX3_readPart_49 (by decide) ?_
        refine lv_istore_n (lv' := [(3, .int 0), (2, .int (sg (ix pl))), (0, .ref h_T), (1, .int 48)]) hx hb dX3_readPart_50 rfl hl (by decide) rfl (fun ls hl => ?_)
        refine lv_iload_n hx hb dX3_readPart_51 rfl (lv_at hl 3 rfl) ?_
        refine lv_bipush (v := 61) hx hb dX3_readPart_52 (by decide) ?_
        refine lv_icmp_ne (tgt := 89) hx hb dX3_readPart_54 (by decide) (fun _ => ?_) (fun c9 => absurd c9 (by decide +kernel))
        refine lv_iload_n hx hb dX3_readPart_89 rfl (lv_at hl 0 rfl) ?_
        refine lv_if_ne (tgt := 105) hx hb dX3_readPart_90 (by decide) (fun c9 => absurd (by decide +kernel) c9) (fun _ => ?_)
        refine lv_iload_n hx hb dX3_readPart_93 rfl (lv_at hl 3 rfl) ?_
        refine lv_bipush (v := 63) hx hb dX3_readPart_94 (by decide) ?_
        refine lv_icmp_ne (tgt := 103) hx hb dX3_readPart_96 (by decide) (fun _ => ?_) (fun c9 => absurd c9 (by decide +kernel))
        refine lv_iconst (v := 0) hx hb dX3_readPart_103 (by decide) ?_
        refine W.widen (k := 0) (n := 0) (Nat.le_of_ble_eq_true rfl) (Nat.le_of_ble_eq_true rfl) ?_
        exact W.zret (v := 0) hx hb hr rfl (QG_.mk (fun _ => 0) (fun _ => 0) (fun _ => 0) [0, 1, 2] [0, 1] hP hD hK hS (by rw [hM]) (by rw [hM]; exact ⟨(show pl.toInt ≤ pl.toInt from (by have y0 := f_nlt c_1; have y1 := f_nle c_2; have y2 := f_lt c_3; have z0 := hy0; have z1 := hy1; have z2 := hy2; have z3 := hy3; have e_0 : (0 : Int32).toInt = 0 := (by decide +kernel); have e_48 : (48 : Int32).toInt = 48 := (by decide +kernel); have b13 := Int32.toInt_lt (pl); have d13 := Int32.le_toInt (pl); have x0 := ix_toNat pl; omega)), (show pl.toInt ≤ pl.toInt + 1 from (by have y0 := f_nlt c_1; have y1 := f_nle c_2; have y2 := f_lt c_3; have z0 := hy0; have z1 := hy1; have z2 := hy2; have z3 := hy3; have e_0 : (0 : Int32).toInt = 0 := (by decide +kernel); have e_48 : (48 : Int32).toInt = 48 := (by decide +kernel); have b14 := Int32.toInt_lt (pl); have d14 := Int32.le_toInt (pl); have x0 := ix_toNat pl; omega)), (show (pl.toInt ≤ 60 ∨ pl.toInt = pl.toInt) from (by have y0 := f_nlt c_1; have y1 := f_nle c_2; have y2 := f_lt c_3; have z0 := hy0; have z1 := hy1; have z2 := hy2; have z3 := hy3; have e_0 : (0 : Int32).toInt = 0 := (by decide +kernel); have e_48 : (48 : Int32).toInt = 48 := (by decide +kernel); have b15 := Int32.toInt_lt (pl); have d15 := Int32.le_toInt (pl); have b16 := Int32.toInt_lt (pl); have d16 := Int32.le_toInt (pl); have x0 := ix_toNat pl; omega))⟩) (by first | (rw [hM]; rfl) | rfl) (by decide) rfl) hS.2.2 dX3_readPart_104
      · rw [if_neg c_3] at hM
        refine lv_iload_n hx hb dX3_readPart_39 rfl (lv_at hl 0 rfl) ?_
        refine lv_bipush (v := 57) hx hb dX3_readPart_40 (by decide) ?_
        refine lv_icmp_gt (tgt := 49) hx hb dX3_readPart_42 (by decide) (fun c_4 => ?_) (fun c_4 => ?_)
        · rw [if_pos c_4] at hM
          refine lv_iconst (v := 0) hx hb dX3_readPart_49 (by decide) ?_
          refine lv_istore_n (lv' := [(3, .int 0), (2, .int (sg (ix pl))), (0, .ref h_T), (1, .int 48)]) hx hb dX3_readPart_50 rfl hl (by decide) rfl (fun ls hl => ?_)
          refine lv_iload_n hx hb dX3_readPart_51 rfl (lv_at hl 3 rfl) ?_
          refine lv_bipush (v := 61) hx hb dX3_readPart_52 (by decide) ?_
          refine lv_icmp_ne (tgt := 89) hx hb dX3_readPart_54 (by decide) (fun _ => ?_) (fun c9 => absurd c9 (by decide +kernel))
          refine lv_iload_n hx hb dX3_readPart_89 rfl (lv_at hl 0 rfl) ?_
          refine lv_if_ne (tgt := 105) hx hb dX3_readPart_90 (by decide) (fun c9 => absurd (by decide +kernel) c9) (fun _ => ?_)
          refine lv_iload_n hx hb dX3_readPart_93 rfl (lv_at hl 3 rfl) ?_
          refine lv_bipush (v := 63) hx hb dX3_readPart_94 (by decide) ?_
          refine lv_icmp_ne (tgt := 103) hx hb dX3_readPart_96 (by decide) (fun _ => ?_) (fun c9 => absurd c9 (by decide +kernel))
          refine lv_iconst (v := 0) hx hb dX3_readPart_103 (by decide) ?_
          refine W.widen (k := 0) (n := 0) (Nat.le_of_ble_eq_true rfl) (Nat.le_of_ble_eq_true rfl) ?_
          exact W.zret (v := 0) hx hb hr rfl (QG_.mk (fun _ => 0) (fun _ => 0) (fun _ => 0) [0, 1, 2] [0, 1] hP hD hK hS (by rw [hM]) (by rw [hM]; exact ⟨(show pl.toInt ≤ pl.toInt from (by have y0 := f_nlt c_1; have y1 := f_nle c_2; have y2 := f_nlt c_3; have y3 := f_lt c_4; have z0 := hy0; have z1 := hy1; have z2 := hy2; have z3 := hy3; have e_0 : (0 : Int32).toInt = 0 := (by decide +kernel); have e_48 : (48 : Int32).toInt = 48 := (by decide +kernel); have e_57 : (57 : Int32).toInt = 57 := (by decide +kernel); have b17 := Int32.toInt_lt (pl); have d17 := Int32.le_toInt (pl); have x0 := ix_toNat pl; omega)), (show pl.toInt ≤ pl.toInt + 1 from (by have y0 := f_nlt c_1; have y1 := f_nle c_2; have y2 := f_nlt c_3; have y3 := f_lt c_4; have z0 := hy0; have z1 := hy1; have z2 := hy2; have z3 := hy3; have e_0 : (0 : Int32).toInt = 0 := (by decide +kernel); have e_48 : (48 : Int32).toInt = 48 := (by decide +kernel); have e_57 : (57 : Int32).toInt = 57 := (by decide +kernel); have b18 := Int32.toInt_lt (pl); have d18 := Int32.le_toInt (pl); have x0 := ix_toNat pl; omega)), (show (pl.toInt ≤ 60 ∨ pl.toInt = pl.toInt) from (by have y0 := f_nlt c_1; have y1 := f_nle c_2; have y2 := f_nlt c_3; have y3 := f_lt c_4; have z0 := hy0; have z1 := hy1; have z2 := hy2; have z3 := hy3; have e_0 : (0 : Int32).toInt = 0 := (by decide +kernel); have e_48 : (48 : Int32).toInt = 48 := (by decide +kernel); have e_57 : (57 : Int32).toInt = 57 := (by decide +kernel); have b19 := Int32.toInt_lt (pl); have d19 := Int32.le_toInt (pl); have b20 := Int32.toInt_lt (pl); have d20 := Int32.le_toInt (pl); have x0 := ix_toNat pl; omega))⟩) (by first | (rw [hM]; rfl) | rfl) (by decide) rfl) hS.2.2 dX3_readPart_104
        · rw [if_neg c_4] at hM
          refine lv_iconst (v := 1) hx hb dX3_readPart_45 (by decide) ?_
          refine lv_goto (tgt := 50) hx hb dX3_readPart_46 (by decide) ?_
          refine lv_istore_n (lv' := [(3, .int 1), (2, .int (sg (ix pl))), (0, .ref h_T), (1, .int 48)]) hx hb dX3_readPart_50 rfl hl (by decide) rfl (fun ls hl => ?_)
          refine lv_iload_n hx hb dX3_readPart_51 rfl (lv_at hl 3 rfl) ?_
          refine lv_bipush (v := 61) hx hb dX3_readPart_52 (by decide) ?_
          refine lv_icmp_ne (tgt := 89) hx hb dX3_readPart_54 (by decide) (fun _ => ?_) (fun c9 => absurd c9 (by decide +kernel))
          refine lv_iload_n hx hb dX3_readPart_89 rfl (lv_at hl 0 rfl) ?_
          refine lv_if_ne (tgt := 105) hx hb dX3_readPart_90 (by decide) (fun _ => ?_) (fun c9 => absurd c9 (by decide +kernel))
          refine lv_iload_n hx hb dX3_readPart_105 rfl (lv_at hl 3 rfl) ?_
          refine lv_bipush (v := 63) hx hb dX3_readPart_106 (by decide) ?_
          refine lv_icmp_ne (tgt := 115) hx hb dX3_readPart_108 (by decide) (fun _ => ?_) (fun c9 => absurd c9 (by decide +kernel))
          refine lv_iload_n hx hb dX3_readPart_115 rfl (lv_at hl 3 rfl) ?_
          refine lv_bipush (v := 48) hx hb dX3_readPart_116 (by decide) ?_
          refine lv_isub hx hb dX3_readPart_118 ?_
          refine kt_ (v := 0) (by decide +kernel) ?_
          refine lv_istore (lv' := [(4, .int 0), (3, .int 1), (2, .int (sg (ix pl))), (0, .ref h_T), (1, .int 48)]) hx hb dX3_readPart_119 hl (by decide) rfl (fun ls hl => ?_)
          refine lv_iload hx hb dX3_readPart_121 (lv_at hl 0 rfl) ?_
          refine lv_if_lt (tgt := 154) hx hb dX3_readPart_123 (by decide) (fun c9 => absurd c9 (by decide +kernel)) (fun _ => ?_)
          refine lv_iload hx hb dX3_readPart_126 (lv_at hl 0 rfl) ?_
          refine lv_iconst (v := 3) hx hb dX3_readPart_128 (by decide) ?_
          refine lv_icmp_ge (tgt := 154) hx hb dX3_readPart_129 (by decide) (fun c9 => absurd c9 (by decide +kernel)) (fun _ => ?_)
          refine lv_aload_n hx hb dX3_readPart_132 rfl (lv_at hl 3 rfl) ?_
          refine va_get (D := D) (ci := 6) (v := .ref h_nu) (own := RX3) (C := RX3) (T := TX3) (N := 5) hx hb hts hi_X3 hown hK hP 2 rfl rfl 4 (by decide) (hts (.fieldLink RX3 31 "CanalMaps$CommandText" "numbers" "[I") (List.mem_of_getElem? (i := 4) (by decide +kernel))) (fun _ h9 => h9) rfl dX3_readPart_133 ?_
          refine lv_iload hx hb dX3_readPart_136 (lv_at hl 0 rfl) ?_
          refine lv_aload_n hx hb dX3_readPart_138 rfl (lv_at hl 3 rfl) ?_
          refine va_get (D := D) (ci := 6) (v := .ref h_nu) (own := RX3) (C := RX3) (T := TX3) (N := 5) hx hb hts hi_X3 hown hK hP 2 rfl rfl 4 (by decide) (hts (.fieldLink RX3 31 "CanalMaps$CommandText" "numbers" "[I") (List.mem_of_getElem? (i := 4) (by decide +kernel))) (fun _ h9 => h9) rfl dX3_readPart_139 ?_
          refine lv_iload hx hb dX3_readPart_142 (lv_at hl 0 rfl) ?_
          refine va_iald hx hb hK hP 1 1 rfl rfl (vin_ (by decide +kernel)) dX3_readPart_144 ?_
          refine kt_ (v := (nu 0)) (congrArg nu (by decide +kernel)) ?_
          refine lv_bipush (v := 10) hx hb dX3_readPart_145 (by decide) ?_
          refine lv_imul hx hb dX3_readPart_147 ?_
          refine lv_iload_n hx hb dX3_readPart_148 rfl (lv_at hl 2 rfl) ?_
          refine lv_iadd hx hb dX3_readPart_149 ?_
          refine lv_bipush (v := 48) hx hb dX3_readPart_150 (by decide) ?_
          refine lv_isub hx hb dX3_readPart_152 ?_
          refine ka_iast (g := (upd nu 0 ((((nu 0) * 10) + (sg (ix pl))) - 48))) hx hb hK hP hD hS 1 1 rfl rfl (vin_ (by decide +kernel)) (congrArg (fun z9 => upd _ z9 _) (by decide +kernel)) dX3_readPart_153 (fun H locs hP hD hS => ?_)
          have hP : va_P D vwCl [(h_sg, .inl (k_sg, 60, .inl sg)), (h_nu, .inl (k_nu, 3, .inl (upd nu 0 ((((nu 0) * 10) + (sg (ix pl))) - 48)))), (h_T, .inr (6, [.ref h_sg, .int ln, .int pl, h_T_3, .ref h_nu]))] H := hP
          have hD : va_D A [(h_sg, .inl (k_sg, 60, .inl sg)), (h_nu, .inl (k_nu, 3, .inl (upd nu 0 ((((nu 0) * 10) + (sg (ix pl))) - 48)))), (h_T, .inr (6, [.ref h_sg, .int ln, .int pl, h_T_3, .ref h_nu]))] := hD
          refine lv_aload_n hx hb dX3_readPart_154 rfl (lv_at hl 3 rfl) ?_
          refine lv_dup hx hb dX3_readPart_155 rfl ?_
          refine va_get (D := D) (ci := 6) (v := .int pl) (own := RX3) (C := RX3) (T := TX3) (N := 5) hx hb hts hi_X3 hown hK hP 2 rfl rfl 2 (by decide) (hts (.fieldLink RX3 19 "CanalMaps$CommandText" "place" "I") (List.mem_of_getElem? (i := 1) (by decide +kernel))) (fun _ h9 => h9) rfl dX3_readPart_156 ?_
          refine lv_iconst (v := 1) hx hb dX3_readPart_159 (by decide) ?_
          refine lv_iadd hx hb dX3_readPart_160 ?_
          refine va_put (D := D) (ci := 6) (v := .int (pl + 1)) (ty := .int) (own := RX3) (C := RX3) (T := TX3) (N := 5) hx hb hts hi_X3 tyX3 tyX3_ok nmX3 hown hK hP hD hS 2 rfl rfl 2 (by decide) (hts (.fieldLink RX3 19 "CanalMaps$CommandText" "place" "I") (List.mem_of_getElem? (i := 1) (by decide +kernel))) (fun _ h9 => h9) rfl (by decide +kernel) rfl rfl (Nat.le_of_ble_eq_true rfl) dX3_readPart_161 (fun H locs hP hD hS => ?_)
          have hP : va_P D vwCl [(h_sg, .inl (k_sg, 60, .inl sg)), (h_nu, .inl (k_nu, 3, .inl (upd nu 0 ((((nu 0) * 10) + (sg (ix pl))) - 48)))), (h_T, .inr (6, [.ref h_sg, .int ln, .int (pl + 1), h_T_3, .ref h_nu]))] H := hP
          have hD : va_D A [(h_sg, .inl (k_sg, 60, .inl sg)), (h_nu, .inl (k_nu, 3, .inl (upd nu 0 ((((nu 0) * 10) + (sg (ix pl))) - 48)))), (h_T, .inr (6, [.ref h_sg, .int ln, .int (pl + 1), h_T_3, .ref h_nu]))] := hD
          refine lv_iconst (v := 1) hx hb dX3_readPart_164 (by decide) ?_
          refine W.widen (k := 0) (n := 0) (Nat.le_of_ble_eq_true rfl) (Nat.le_of_ble_eq_true rfl) ?_
          exact W.zret (v := 1) hx hb hr rfl (QG_.mk (fun _ => 0) (fun _ => 0) (fun _ => 0) [0, 1, 2] [0, 1] hP hD hK hS (by rw [hM]) (by rw [hM]; exact ⟨(show pl.toInt ≤ (pl + 1).toInt from (by have y0 := f_nlt c_1; have y1 := f_nle c_2; have y2 := f_nlt c_3; have y3 := f_nlt c_4; have z0 := hy0; have z1 := hy1; have z2 := hy2; have z3 := hy3; have e_0 : (0 : Int32).toInt = 0 := (by decide +kernel); have e_48 : (48 : Int32).toInt = 48 := (by decide +kernel); have e_57 : (57 : Int32).toInt = 57 := (by decide +kernel); have b22 := Int32.toInt_lt (pl); have d22 := Int32.le_toInt (pl); have l23 : (1 : Int32).toInt = 1 := (by decide +kernel); have q21 := addI (a := pl) (b := 1) (by omega) (by omega); have x0 := ix_toNat pl; omega)), (show (pl + 1).toInt ≤ pl.toInt + 1 from (by have y0 := f_nlt c_1; have y1 := f_nle c_2; have y2 := f_nlt c_3; have y3 := f_nlt c_4; have z0 := hy0; have z1 := hy1; have z2 := hy2; have z3 := hy3; have e_0 : (0 : Int32).toInt = 0 := (by decide +kernel); have e_48 : (48 : Int32).toInt = 48 := (by decide +kernel); have e_57 : (57 : Int32).toInt = 57 := (by decide +kernel); have b25 := Int32.toInt_lt (pl); have d25 := Int32.le_toInt (pl); have l26 : (1 : Int32).toInt = 1 := (by decide +kernel); have q24 := addI (a := pl) (b := 1) (by omega) (by omega); have x0 := ix_toNat pl; omega)), (show ((pl + 1).toInt ≤ 60 ∨ (pl + 1).toInt = pl.toInt) from (by have y0 := f_nlt c_1; have y1 := f_nle c_2; have y2 := f_nlt c_3; have y3 := f_nlt c_4; have z0 := hy0; have z1 := hy1; have z2 := hy2; have z3 := hy3; have e_0 : (0 : Int32).toInt = 0 := (by decide +kernel); have e_48 : (48 : Int32).toInt = 48 := (by decide +kernel); have e_57 : (57 : Int32).toInt = 57 := (by decide +kernel); have b28 := Int32.toInt_lt (pl); have d28 := Int32.le_toInt (pl); have l29 : (1 : Int32).toInt = 1 := (by decide +kernel); have q27 := addI (a := pl) (b := 1) (by omega) (by omega); have b31 := Int32.toInt_lt (pl); have d31 := Int32.le_toInt (pl); have l32 : (1 : Int32).toInt = 1 := (by decide +kernel); have q30 := addI (a := pl) (b := 1) (by omega) (by omega); have x0 := ix_toNat pl; omega))⟩) (by first | (rw [hM]; rfl) | rfl) (by decide) rfl) hS.2.2 dX3_readPart_165
def F_J1_charAt_3b067_1_ad41  : Int32 := 49
set_option maxHeartbeats 4000000 in
set_option maxRecDepth 100000 in
theorem c_J1_charAt_3b067_1_ad41 (l : Launch) (hl0 : l.stackTraces = false) (D : va_G) (ad : Nat → Nat) (sz : Nat)  : Met l yJ1_charAt_3b067 wsJ1_charAt_3b067 ({ frames := 2, cells := 0, slots := 0, locals := 47 }) (PR_ D ad [] [] sz [.ref (ad 41), .int 1]) (QR_ (.int (F_J1_charAt_3b067_1_ad41)) (va_A [] sz)) 0 0 (va_A [] sz) := by
  refine Met.ofW (cc := cJ1_charAt_3b067) (maxL := 2) (ret := (some .char)) (by decide) rfl ?_
  intro p e s m args below meth c s₁ B hml hv
  obtain ⟨rfl, hsz, hP, hK, hF⟩ := hv
  have hx := B.exec
  have hb := B.bytes
  have hr := B.returns
  have hts := atoms_spec (ws := wsJ1_charAt_3b067) B.pre
  have hown : s.vm.findClass RJ1 = some m.cls := findClass_of_methodNamed B.named
  have hlocks := B.notSynchronized
  subst hsz
  generalize hAe : va_A [] s.heap.size = A at hF ⊢
  have hA : ∀ q : Nat, s.heap.size ≤ q → A q := fun q h => by rw [← hAe]; exact Or.inr h
  obtain ⟨H, hHe⟩ : ∃ H : Heap, H = s.heap := ⟨_, rfl⟩
  have hS : va_S A s.heap H [] := by rw [hHe]; exact va_S.rf
  have hP : va_P D vwCl [] H := by rw [hHe]; exact hP
  rw [← hHe]
  have hl := lv_entry [.ref (ad 41), .int 1] (n := 2) (Nat.le_of_ble_eq_true rfl)
  rw [lg_entry_eq]
  generalize (lg_sl [.ref (ad 41), .int 1] ++ List.replicate (2 - (lg_sl [.ref (ad 41), .int 1]).length) Slot.unset).toArray = ls at hl ⊢
  have hl : lv_has ls 2 [(0, .ref (ad 41)), (1, .int 1)] := hl
  have hM : F_J1_charAt_3b067_1_ad41 = 49 := rfl
  refine lv_iload_n hx hb dJ1_charAt_3b067_0 rfl (lv_at hl 1 rfl) ?_
  refine lv_aload_n hx hb dJ1_charAt_3b067_1 rfl (lv_at hl 0 rfl) ?_
  refine va_tlen (v := 4) hx hb ((fxst_ hF).1 1 (by decide)).2.2.2 hS rfl dJ1_charAt_3b067_2 ?_
  refine krv_ (va_runS (As := [.int 1, .int 4]) (rest := []) ⟨hx, hb, hml, hown, hts⟩ (c_J0_checkIndex_df160 l hl0 D ad H.size 1 4 (by decide +kernel) (by decide +kernel)) (va_cwS 2 hts gJ1_charAt_3b067_J0_checkIndex_df160 rfl rfl rfl (by decide +kernel) ⟨Nat.le_of_ble_eq_true rfl, Nat.le_of_ble_eq_true rfl⟩) ⟨PR_.blind, PR_.pre hF hK (hP.sub [] rfl) hS hA [] rfl⟩ rfl rfl hl.1 rfl (lv_room (Nat.le_of_ble_eq_true rfl)) dJ1_charAt_3b067_3 ⟨(Nat.le_of_ble_eq_true rfl), (Nat.le_of_ble_eq_true rfl)⟩) hP hS hA (fun H locs hP hS => ?_)
  refine W.eq (g2 := F0 m 6 ls []) rfl ?_
  refine lv_aload_n hx hb dJ1_charAt_3b067_6 rfl (lv_at hl 0 rfl) ?_
  refine lv_iload_n hx hb dJ1_charAt_3b067_7 rfl (lv_at hl 1 rfl) ?_
  refine va_tb (v := .int 49) hx hb ((fxst_ hF).1 1 (by decide)).2.2.2 hS (vin_ (by decide +kernel)) rfl dJ1_charAt_3b067_8 ?_
  refine lv_sipush (v := 255) hx hb dJ1_charAt_3b067_9 (by decide +kernel) ?_
  refine lv_iand hx hb dJ1_charAt_3b067_12 ?_
  refine kt_ (v := 49) (by decide +kernel) ?_
  refine lv_i2c (v := 49) hx hb dJ1_charAt_3b067_13 (by decide +kernel) ?_
  refine W.widen (k := 0) (n := 0) (Nat.le_of_ble_eq_true rfl) (Nat.le_of_ble_eq_true rfl) ?_
  exact W.zret (v := 49) hx hb hr rfl (QR_.mk hS (by rw [hM])) hS.2.2 dJ1_charAt_3b067_14
def F_J0_charAt_5068e_1_ad21  : Int32 := 49
set_option maxHeartbeats 4000000 in
set_option maxRecDepth 100000 in
theorem c_J0_charAt_5068e_1_ad21 (l : Launch) (hl0 : l.stackTraces = false) (D : va_G) (ad : Nat → Nat) (sz : Nat)  : Met l yJ0_charAt_5068e wsJ0_charAt_5068e ({ frames := 3, cells := 0, slots := 0, locals := 70 }) (PR_ D ad [] [] sz [.ref (ad 21), .int 1]) (QR_ (.int (F_J0_charAt_5068e_1_ad21)) (va_A [] sz)) 0 0 (va_A [] sz) := by
  refine Met.ofW (cc := cJ0_charAt_5068e) (maxL := 2) (ret := (some .char)) (by decide) rfl ?_
  intro p e s m args below meth c s₁ B hml hv
  obtain ⟨rfl, hsz, hP, hK, hF⟩ := hv
  have hx := B.exec
  have hb := B.bytes
  have hr := B.returns
  have hts := atoms_spec (ws := wsJ0_charAt_5068e) B.pre
  have hown : s.vm.findClass RJ0 = some m.cls := findClass_of_methodNamed B.named
  have hlocks := B.notSynchronized
  subst hsz
  generalize hAe : va_A [] s.heap.size = A at hF ⊢
  have hA : ∀ q : Nat, s.heap.size ≤ q → A q := fun q h => by rw [← hAe]; exact Or.inr h
  obtain ⟨H, hHe⟩ : ∃ H : Heap, H = s.heap := ⟨_, rfl⟩
  have hS : va_S A s.heap H [] := by rw [hHe]; exact va_S.rf
  have hP : va_P D vwCl [] H := by rw [hHe]; exact hP
  rw [← hHe]
  have hl := lv_entry [.ref (ad 21), .int 1] (n := 2) (Nat.le_of_ble_eq_true rfl)
  rw [lg_entry_eq]
  generalize (lg_sl [.ref (ad 21), .int 1] ++ List.replicate (2 - (lg_sl [.ref (ad 21), .int 1]).length) Slot.unset).toArray = ls at hl ⊢
  have hl : lv_has ls 2 [(0, .ref (ad 21)), (1, .int 1)] := hl
  have hM : F_J0_charAt_5068e_1_ad21 = 49 := rfl
  refine lv_aload_n hx hb dJ0_charAt_5068e_0 rfl (lv_at hl 0 rfl) ?_
  refine kr_ (va_runV (As := []) (rest := []) ⟨hx, hb, hml, hown, hts⟩ (c_J0_isLatin1_aae02_ad21 l hl0 D ad H.size) (cwV 0 hts gJ0_charAt_5068e_J0_isLatin1_aae02 rfl rfl rfl (by decide +kernel) ⟨Nat.le_of_ble_eq_true rfl, Nat.le_of_ble_eq_true rfl⟩) ⟨PR_.blind, vk_recv (fxst_ hF) (i := 1) (by decide) hS, PR_.pre hF hK (hP.sub [] rfl) hS hA [] rfl⟩ rfl rfl hl.1 rfl (lv_room (Nat.le_of_ble_eq_true rfl)) dJ0_charAt_5068e_1 ⟨(Nat.le_of_ble_eq_true rfl), (Nat.le_of_ble_eq_true rfl)⟩) hP hS hA (fun H locs hP hS => ?_)
  refine W.eq (g2 := F0 m 4 ls [.int 1]) rfl ?_
  refine lv_if_eq (tgt := 16) hx hb dJ0_charAt_5068e_4 (by decide) (fun c9 => absurd c9 (by decide +kernel)) (fun _ => ?_)
  refine lv_aload_n hx hb dJ0_charAt_5068e_7 rfl (lv_at hl 0 rfl) ?_
  refine vk_getf (o := "java/lang/String") (n := "value") (d := "[B") (q := ad 21) (v := .ref (ad 41)) hx hb ((fxst_ hF).1 1 (by decide)).2.2.1 hS hown (hts (.fieldLink RJ0 9 "java/lang/String" "value" "[B") (List.mem_of_getElem? (i := 1) (by decide +kernel))) (fun _ h9 => h9) dJ0_charAt_5068e_8 ?_
  refine lv_iload_n hx hb dJ0_charAt_5068e_11 rfl (lv_at hl 1 rfl) ?_
  refine kr_ (va_runS (As := [.ref (ad 41), .int 1]) (rest := []) ⟨hx, hb, hml, hown, hts⟩ (c_J1_charAt_3b067_1_ad41 l hl0 D ad H.size) (va_cwS 2 hts gJ0_charAt_5068e_J1_charAt_3b067 rfl rfl rfl (by decide +kernel) ⟨Nat.le_of_ble_eq_true rfl, Nat.le_of_ble_eq_true rfl⟩) ⟨PR_.blind, PR_.pre hF hK (hP.sub [] rfl) hS hA [] rfl⟩ rfl rfl hl.1 rfl (lv_room (Nat.le_of_ble_eq_true rfl)) dJ0_charAt_5068e_12 ⟨(Nat.le_of_ble_eq_true rfl), (Nat.le_of_ble_eq_true rfl)⟩) hP hS hA (fun H locs hP hS => ?_)
  refine W.eq (g2 := F0 m 15 ls [.int 49]) rfl ?_
  refine W.widen (k := 0) (n := 0) (Nat.le_of_ble_eq_true rfl) (Nat.le_of_ble_eq_true rfl) ?_
  exact W.zret (v := 49) hx hb hr rfl (QR_.mk hS (by rw [hM])) hS.2.2 dJ0_charAt_5068e_15
def F_X3_readPart_49 (sg : Nat → Int32) (ln : Int32) (pl : Int32) (nu : Nat → Int32) : Int32 × (Nat → Int32) × Int32 := (if pl < 0 then (0, nu, pl) else (if ln ≤ pl then (0, nu, pl) else (if (sg (ix pl)) < 48 then (0, nu, pl) else (if 57 < (sg (ix pl)) then (0, nu, pl) else (1, (upd nu 1 ((((nu 1) * 10) + (sg (ix pl))) - 48)), (pl + 1))))))
set_option maxHeartbeats 4000000 in
set_option maxRecDepth 100000 in
theorem c_X3_readPart_49 (l : Launch) (hl0 : l.stackTraces = false) (D : va_G) (ad : Nat → Nat) (sz : Nat) (h_sg : Nat) (h_nu : Nat) (h_T : Nat) (k_sg : ClassId) (k_nu : ClassId) (h_T_3 : Value) (sg : Nat → Int32) (nu : Nat → Int32) (ln : Int32) (pl : Int32) (hy0 : 0 ≤ ln.toInt) (hy1 : ln.toInt ≤ 60) (hy2 : 0 ≤ pl.toInt) (hy3 : pl.toInt ≤ 200) : Met l yX3_readPart wsX3_readPart ({ frames := 0, cells := 0, slots := 0, locals := 0 }) (PC_ D ad [(h_sg, .inl (k_sg, 60, .inl sg)), (h_nu, .inl (k_nu, 3, .inl nu)), (h_T, .inr (6, [.ref h_sg, .int ln, .int pl, h_T_3, .ref h_nu]))] [(k_sg, .char), (k_nu, .int)] sz [.ref h_T, .int 49]) (QG_ D (fun q i => some (.int (F_X3_readPart_49 sg ln pl nu).1)) (fun q i => pl.toInt ≤ ((F_X3_readPart_49 sg ln pl nu).2.2).toInt ∧ ((F_X3_readPart_49 sg ln pl nu).2.2).toInt ≤ pl.toInt + 1 ∧ (((F_X3_readPart_49 sg ln pl nu).2.2).toInt ≤ 60 ∨ ((F_X3_readPart_49 sg ln pl nu).2.2).toInt = pl.toInt)) (fun q k i => [(h_sg, .inl (k_sg, 60, .inl sg)), (h_nu, .inl (k_nu, 3, .inl (F_X3_readPart_49 sg ln pl nu).2.1)), (h_T, .inr (6, [.ref h_sg, .int ln, .int (F_X3_readPart_49 sg ln pl nu).2.2, h_T_3, .ref h_nu]))]) (fun q k i => [(k_sg, .char), (k_nu, .int)]) (va_A [(h_sg, .inl (k_sg, 60, .inl sg)), (h_nu, .inl (k_nu, 3, .inl nu)), (h_T, .inr (6, [.ref h_sg, .int ln, .int pl, h_T_3, .ref h_nu]))] sz)) 0 0 (va_A [(h_sg, .inl (k_sg, 60, .inl sg)), (h_nu, .inl (k_nu, 3, .inl nu)), (h_T, .inr (6, [.ref h_sg, .int ln, .int pl, h_T_3, .ref h_nu]))] sz) := by
  refine Met.ofW (cc := cX3_readPart) (maxL := 5) (ret := (some .boolean)) (by decide) rfl ?_
  intro p e s m args below meth c s₁ B hml hv
  obtain ⟨rfl, hsz, hP, hK, hD0, hF⟩ := hv
  have hx := B.exec
  have hb := B.bytes
  have hr := B.returns
  have hts := atoms_spec (ws := wsX3_readPart) B.pre
  have hown : s.vm.findClass RX3 = some m.cls := findClass_of_methodNamed B.named
  have hlocks := B.notSynchronized
  subst hsz
  have hD := hD0.self (sz := s.heap.size)
  generalize hAe : va_A [(h_sg, .inl (k_sg, 60, .inl sg)), (h_nu, .inl (k_nu, 3, .inl nu)), (h_T, .inr (6, [.ref h_sg, .int ln, .int pl, h_T_3, .ref h_nu]))] s.heap.size = A at hD hF ⊢
  have hA : ∀ q : Nat, s.heap.size ≤ q → A q := fun q h => by rw [← hAe]; exact Or.inr h
  obtain ⟨H, hHe⟩ : ∃ H : Heap, H = s.heap := ⟨_, rfl⟩
  have hS : va_S A s.heap H [] := by rw [hHe]; exact va_S.rf
  have hP : va_P D vwCl [(h_sg, .inl (k_sg, 60, .inl sg)), (h_nu, .inl (k_nu, 3, .inl nu)), (h_T, .inr (6, [.ref h_sg, .int ln, .int pl, h_T_3, .ref h_nu]))] H := by rw [hHe]; exact hP
  rw [← hHe]
  have hi_X3 : ∀ w ∈ wsX30, w ∈ wsX3_readPart := by decide +kernel
  have hl := lv_entry [.ref h_T, .int 49] (n := 5) (Nat.le_of_ble_eq_true rfl)
  rw [lg_entry_eq]
  generalize (lg_sl [.ref h_T, .int 49] ++ List.replicate (5 - (lg_sl [.ref h_T, .int 49]).length) Slot.unset).toArray = ls at hl ⊢
  have hl : lv_has ls 5 [(0, .ref h_T), (1, .int 49)] := hl
  have hM : F_X3_readPart_49 sg ln pl nu = (if pl < 0 then (0, nu, pl) else (if ln ≤ pl then (0, nu, pl) else (if (sg (ix pl)) < 48 then (0, nu, pl) else (if 57 < (sg (ix pl)) then (0, nu, pl) else (1, (upd nu 1 ((((nu 1) * 10) + (sg (ix pl))) - 48)), (pl + 1)))))) := rfl
  refine lv_aload_n hx hb dX3_readPart_0 rfl (lv_at hl 0 rfl) ?_
  refine va_get (D := D) (ci := 6) (v := .int pl) (own := RX3) (C := RX3) (T := TX3) (N := 5) hx hb hts hi_X3 hown hK hP 2 rfl rfl 2 (by decide) (hts (.fieldLink RX3 19 "CanalMaps$CommandText" "place" "I") (List.mem_of_getElem? (i := 1) (by decide +kernel))) (fun _ h9 => h9) rfl dX3_readPart_1 ?_
  refine lv_if_lt (tgt := 30) hx hb dX3_readPart_4 (by decide) (fun c_1 => ?_) (fun c_1 => ?_)
  · rw [if_pos c_1] at hM
    refine lv_bipush (v := 32) hx hb dX3_readPart_30 (by decide) ?_
    refine lv_istore_n (lv' := [(2, .int 32), (0, .ref h_T), (1, .int 49)]) hx hb dX3_readPart_32 rfl hl (by decide) rfl (fun ls hl => ?_)
    refine lv_iload_n hx hb dX3_readPart_33 rfl (lv_at hl 0 rfl) ?_
    refine lv_bipush (v := 48) hx hb dX3_readPart_34 (by decide) ?_
    refine lv_icmp_lt (tgt := 49) hx hb dX3_readPart_36 (by decide) (fun _ => ?_) (fun c9 => absurd (by decide +kernel) c9)
    refine lv_iconst (v := 0) hx hb dX3_readPart_49 (by decide) ?_
    refine lv_istore_n (lv' := [(3, .int 0), (2, .int 32), (0, .ref h_T), (1, .int 49)]) hx hb dX3_readPart_50 rfl hl (by decide) rfl (fun ls hl => ?_)
    refine lv_iload_n hx hb dX3_readPart_51 rfl (lv_at hl 3 rfl) ?_
    refine lv_bipush (v := 61) hx hb dX3_readPart_52 (by decide) ?_
    refine lv_icmp_ne (tgt := 89) hx hb dX3_readPart_54 (by decide) (fun _ => ?_) (fun c9 => absurd c9 (by decide +kernel))
    refine lv_iload_n hx hb dX3_readPart_89 rfl (lv_at hl 0 rfl) ?_
    refine lv_if_ne (tgt := 105) hx hb dX3_readPart_90 (by decide) (fun c9 => absurd (by decide +kernel) c9) (fun _ => ?_)
    refine lv_iload_n hx hb dX3_readPart_93 rfl (lv_at hl 3 rfl) ?_
    refine lv_bipush (v := 63) hx hb dX3_readPart_94 (by decide) ?_
    refine lv_icmp_ne (tgt := 103) hx hb dX3_readPart_96 (by decide) (fun _ => ?_) (fun c9 => absurd c9 (by decide +kernel))
    refine lv_iconst (v := 0) hx hb dX3_readPart_103 (by decide) ?_
    refine W.widen (k := 0) (n := 0) (Nat.le_of_ble_eq_true rfl) (Nat.le_of_ble_eq_true rfl) ?_
    exact W.zret (v := 0) hx hb hr rfl (QG_.mk (fun _ => 0) (fun _ => 0) (fun _ => 0) [0, 1, 2] [0, 1] hP hD hK hS (by rw [hM]) (by rw [hM]; exact ⟨(show pl.toInt ≤ pl.toInt from (by have y0 := f_lt c_1; have z0 := hy0; have z1 := hy1; have z2 := hy2; have z3 := hy3; have e_0 : (0 : Int32).toInt = 0 := (by decide +kernel); have b4 := Int32.toInt_lt (pl); have d4 := Int32.le_toInt (pl); omega)), (show pl.toInt ≤ pl.toInt + 1 from (by have y0 := f_lt c_1; have z0 := hy0; have z1 := hy1; have z2 := hy2; have z3 := hy3; have e_0 : (0 : Int32).toInt = 0 := (by decide +kernel); have b5 := Int32.toInt_lt (pl); have d5 := Int32.le_toInt (pl); omega)), (show (pl.toInt ≤ 60 ∨ pl.toInt = pl.toInt) from (by have y0 := f_lt c_1; have z0 := hy0; have z1 := hy1; have z2 := hy2; have z3 := hy3; have e_0 : (0 : Int32).toInt = 0 := (by decide +kernel); have b6 := Int32.toInt_lt (pl); have d6 := Int32.le_toInt (pl); have b7 := Int32.toInt_lt (pl); have d7 := Int32.le_toInt (pl); omega))⟩) (by first | (rw [hM]; rfl) | rfl) (by decide) rfl) hS.2.2 dX3_readPart_104
  · rw [if_neg c_1] at hM
    refine lv_aload_n hx hb dX3_readPart_7 rfl (lv_at hl 0 rfl) ?_
    refine va_get (D := D) (ci := 6) (v := .int pl) (own := RX3) (C := RX3) (T := TX3) (N := 5) hx hb hts hi_X3 hown hK hP 2 rfl rfl 2 (by decide) (hts (.fieldLink RX3 19 "CanalMaps$CommandText" "place" "I") (List.mem_of_getElem? (i := 1) (by decide +kernel))) (fun _ h9 => h9) rfl dX3_readPart_8 ?_
    refine lv_aload_n hx hb dX3_readPart_11 rfl (lv_at hl 0 rfl) ?_
    refine va_get (D := D) (ci := 6) (v := .int ln) (own := RX3) (C := RX3) (T := TX3) (N := 5) hx hb hts hi_X3 hown hK hP 2 rfl rfl 1 (by decide) (hts (.fieldLink RX3 15 "CanalMaps$CommandText" "length" "I") (List.mem_of_getElem? (i := 2) (by decide +kernel))) (fun _ h9 => h9) rfl dX3_readPart_12 ?_
    refine lv_icmp_ge (tgt := 30) hx hb dX3_readPart_15 (by decide) (fun c_2 => ?_) (fun c_2 => ?_)
    · rw [if_pos c_2] at hM
      refine lv_bipush (v := 32) hx hb dX3_readPart_30 (by decide) ?_
      refine lv_istore_n (lv' := [(2, .int 32), (0, .ref h_T), (1, .int 49)]) hx hb dX3_readPart_32 rfl hl (by decide) rfl (fun ls hl => ?_)
      refine lv_iload_n hx hb dX3_readPart_33 rfl (lv_at hl 0 rfl) ?_
      refine lv_bipush (v := 48) hx hb dX3_readPart_34 (by decide) ?_
      refine lv_icmp_lt (tgt := 49) hx hb dX3_readPart_36 (by decide) (fun _ => ?_) (fun c9 => absurd (by decide +kernel) c9)
      refine lv_iconst (v := 0) hx hb dX3_readPart_49 (by decide) ?_
      refine lv_istore_n (lv' := [(3, .int 0), (2, .int 32), (0, .ref h_T), (1, .int 49)]) hx hb dX3_readPart_50 rfl hl (by decide) rfl (fun ls hl => ?_)
      refine lv_iload_n hx hb dX3_readPart_51 rfl (lv_at hl 3 rfl) ?_
      refine lv_bipush (v := 61) hx hb dX3_readPart_52 (by decide) ?_
      refine lv_icmp_ne (tgt := 89) hx hb dX3_readPart_54 (by decide) (fun _ => ?_) (fun c9 => absurd c9 (by decide +kernel))
      refine lv_iload_n hx hb dX3_readPart_89 rfl (lv_at hl 0 rfl) ?_
      refine lv_if_ne (tgt := 105) hx hb dX3_readPart_90 (by decide) (fun c9 => absurd (by decide +kernel) c9) (fun _ => ?_)
      refine lv_iload_n hx hb dX3_readPart_93 rfl (lv_at hl 3 rfl) ?_
      refine lv_bipush (v := 63) hx hb dX3_readPart_94 (by decide) ?_
      refine lv_icmp_ne (tgt := 103) hx hb dX3_readPart_96 (by decide) (fun _ => ?_) (fun c9 => absurd c9 (by decide +kernel))
      refine lv_iconst (v := 0) hx hb dX3_readPart_103 (by decide) ?_
      refine W.widen (k := 0) (n := 0) (Nat.le_of_ble_eq_true rfl) (Nat.le_of_ble_eq_true rfl) ?_
      exact W.zret (v := 0) hx hb hr rfl (QG_.mk (fun _ => 0) (fun _ => 0) (fun _ => 0) [0, 1, 2] [0, 1] hP hD hK hS (by rw [hM]) (by rw [hM]; exact ⟨(show pl.toInt ≤ pl.toInt from (by have y0 := f_nlt c_1; have y1 := f_le c_2; have z0 := hy0; have z1 := hy1; have z2 := hy2; have z3 := hy3; have e_0 : (0 : Int32).toInt = 0 := (by decide +kernel); have b8 := Int32.toInt_lt (pl); have d8 := Int32.le_toInt (pl); omega)), (show pl.toInt ≤ pl.toInt + 1 from (by have y0 := f_nlt c_1; have y1 := f_le c_2; have z0 := hy0; have z1 := hy1; have z2 := hy2; have z3 := hy3; have e_0 : (0 : Int32).toInt = 0 := (by decide +kernel); have b9 := Int32.toInt_lt (pl); have d9 := Int32.le_toInt (pl); omega)), (show (pl.toInt ≤ 60 ∨ pl.toInt = pl.toInt) from (by have y0 := f_nlt c_1; have y1 := f_le c_2; have z0 := hy0; have z1 := hy1; have z2 := hy2; have z3 := hy3; have e_0 : (0 : Int32).toInt = 0 := (by decide +kernel); have b10 := Int32.toInt_lt (pl); have d10 := Int32.le_toInt (pl); have b11 := Int32.toInt_lt (pl); have d11 := Int32.le_toInt (pl); omega))⟩) (by first | (rw [hM]; rfl) | rfl) (by decide) rfl) hS.2.2 dX3_readPart_104
    · rw [if_neg c_2] at hM
      refine lv_aload_n hx hb dX3_readPart_18 rfl (lv_at hl 0 rfl) ?_
      refine va_get (D := D) (ci := 6) (v := .ref h_sg) (own := RX3) (C := RX3) (T := TX3) (N := 5) hx hb hts hi_X3 hown hK hP 2 rfl rfl 0 (by decide) (hts (.fieldLink RX3 9 "CanalMaps$CommandText" "signs" "[C") (List.mem_of_getElem? (i := 3) (by decide +kernel))) (fun _ h9 => h9) rfl dX3_readPart_19 ?_
      refine lv_aload_n hx hb dX3_readPart_22 rfl (lv_at hl 0 rfl) ?_
      refine va_get (D := D) (ci := 6) (v := .int pl) (own := RX3) (C := RX3) (T := TX3) (N := 5) hx hb hts hi_X3 hown hK hP 2 rfl rfl 2 (by decide) (hts (.fieldLink RX3 19 "CanalMaps$CommandText" "place" "I") (List.mem_of_getElem? (i := 1) (by decide +kernel))) (fun _ h9 => h9) rfl dX3_readPart_23 ?_
      refine va_cald hx hb hK hP 0 0 rfl rfl (vinI (by have y0 := f_nlt c_1; have y1 := f_nle c_2; have z0 := hy0; have z1 := hy1; have z2 := hy2; have z3 := hy3; have e_0 : (0 : Int32).toInt = 0 := (by decide +kernel); have b12 := Int32.toInt_lt (pl); have d12 := Int32.le_toInt (pl); omega) (by have y0 := f_nlt c_1; have y1 := f_nle c_2; have z0 := hy0; have z1 := hy1; have z2 := hy2; have z3 := hy3; have e_0 : (0 : Int32).toInt = 0 := (by decide +kernel); have b12 := Int32.toInt_lt (pl); have d12 := Int32.le_toInt (pl); omega)) dX3_readPart_26 ?_
      refine kt_ (v := (sg (ix pl))) rfl ?_
      refine lv_goto (tgt := 32) hx hb dX3_readPart_27 (by decide) ?_
      refine lv_istore_n (lv' := [(2, .int (sg (ix pl))), (0, .ref h_T), (1, .int 49)]) hx hb dX3_readPart_32 rfl hl (by decide) rfl (fun ls hl => ?_)
      refine lv_iload_n hx hb dX3_readPart_33 rfl (lv_at hl 0 rfl) ?_
      refine lv_bipush (v := 48) hx hb dX3_readPart_34 (by decide) ?_
      refine lv_icmp_lt (tgt := 49) hx hb dX3_readPart_36 (by decide) (fun c_3 => ?_) (fun c_3 => ?_)
      · rw [if_pos c_3] at hM
        refine lv_iconst (v := 0) hx hb dX3_readPart_49 (by decide) ?_
        refine lv_istore_n (lv' := [(3, .int 0), (2, .int (sg (ix pl))), (0, .ref h_T), (1, .int 49)]) hx hb dX3_readPart_50 rfl hl (by decide) rfl (fun ls hl => ?_)
        refine lv_iload_n hx hb dX3_readPart_51 rfl (lv_at hl 3 rfl) ?_
        refine lv_bipush (v := 61) hx hb dX3_readPart_52 (by decide) ?_
        refine lv_icmp_ne (tgt := 89) hx hb dX3_readPart_54 (by decide) (fun _ => ?_) (fun c9 => absurd c9 (by decide +kernel))
        refine lv_iload_n hx hb dX3_readPart_89 rfl (lv_at hl 0 rfl) ?_
        refine lv_if_ne (tgt := 105) hx hb dX3_readPart_90 (by decide) (fun c9 => absurd (by decide +kernel) c9) (fun _ => ?_)
        refine lv_iload_n hx hb dX3_readPart_93 rfl (lv_at hl 3 rfl) ?_
        refine lv_bipush (v := 63) hx hb dX3_readPart_94 (by decide) ?_
        refine lv_icmp_ne (tgt := 103) hx hb dX3_readPart_96 (by decide) (fun _ => ?_) (fun c9 => absurd c9 (by decide +kernel))
        refine lv_iconst (v := 0) hx hb dX3_readPart_103 (by decide) ?_
        refine W.widen (k := 0) (n := 0) (Nat.le_of_ble_eq_true rfl) (Nat.le_of_ble_eq_true rfl) ?_
        exact W.zret (v := 0) hx hb hr rfl (QG_.mk (fun _ => 0) (fun _ => 0) (fun _ => 0) [0, 1, 2] [0, 1] hP hD hK hS (by rw [hM]) (by rw [hM]; exact ⟨(show pl.toInt ≤ pl.toInt from (by have y0 := f_nlt c_1; have y1 := f_nle c_2; have y2 := f_lt c_3; have z0 := hy0; have z1 := hy1; have z2 := hy2; have z3 := hy3; have e_0 : (0 : Int32).toInt = 0 := (by decide +kernel); have e_48 : (48 : Int32).toInt = 48 := (by decide +kernel); have b13 := Int32.toInt_lt (pl); have d13 := Int32.le_toInt (pl); have x0 := ix_toNat pl; omega)), (show pl.toInt ≤ pl.toInt + 1 from (by have y0 := f_nlt c_1; have y1 := f_nle c_2; have y2 := f_lt c_3; have z0 := hy0; have z1 := hy1; have z2 := hy2; have z3 := hy3; have e_0 : (0 : Int32).toInt = 0 := (by decide +kernel); have e_48 : (48 : Int32).toInt = 48 := (by decide +kernel); have b14 := Int32.toInt_lt (pl); have d14 := Int32.le_toInt (pl); have x0 := ix_toNat pl; omega)), (show (pl.toInt ≤ 60 ∨ pl.toInt = pl.toInt) from (by have y0 := f_nlt c_1; have y1 := f_nle c_2; have y2 := f_lt c_3; have z0 := hy0; have z1 := hy1; have z2 := hy2; have z3 := hy3; have e_0 : (0 : Int32).toInt = 0 := (by decide +kernel); have e_48 : (48 : Int32).toInt = 48 := (by decide +kernel); have b15 := Int32.toInt_lt (pl); have d15 := Int32.le_toInt (pl); have b16 := Int32.toInt_lt (pl); have d16 := Int32.le_toInt (pl); have x0 := ix_toNat pl; omega))⟩) (by first | (rw [hM]; rfl) | rfl) (by decide) rfl) hS.2.2 dX3_readPart_104
      · rw [if_neg c_3] at hM
        refine lv_iload_n hx hb dX3_readPart_39 rfl (lv_at hl 0 rfl) ?_
        refine lv_bipush (v := 57) hx hb dX3_readPart_40 (by decide) ?_
        refine lv_icmp_gt (tgt := 49) hx hb dX3_readPart_42 (by decide) (fun c_4 => ?_) (fun c_4 => ?_)
        · rw [if_pos c_4] at hM
          refine lv_iconst (v := 0) hx hb dX3_readPart_49 (by decide) ?_
          refine lv_istore_n (lv' := [(3, .int 0), (2, .int (sg (ix pl))), (0, .ref h_T), (1, .int 49)]) hx hb dX3_readPart_50 rfl hl (by decide) rfl (fun ls hl => ?_)
          refine lv_iload_n hx hb dX3_readPart_51 rfl (lv_at hl 3 rfl) ?_
          refine lv_bipush (v := 61) hx hb dX3_readPart_52 (by decide) ?_
          refine lv_icmp_ne (tgt := 89) hx hb dX3_readPart_54 (by decide) (fun _ => ?_) (fun c9 => absurd c9 (by decide +kernel))
          refine lv_iload_n hx hb dX3_readPart_89 rfl (lv_at hl 0 rfl) ?_
          refine lv_if_ne (tgt := 105) hx hb dX3_readPart_90 (by decide) (fun c9 => absurd (by decide +kernel) c9) (fun _ => ?_)
          refine lv_iload_n hx hb dX3_readPart_93 rfl (lv_at hl 3 rfl) ?_
          refine lv_bipush (v := 63) hx hb dX3_readPart_94 (by decide) ?_
          refine lv_icmp_ne (tgt := 103) hx hb dX3_readPart_96 (by decide) (fun _ => ?_) (fun c9 => absurd c9 (by decide +kernel))
          refine lv_iconst (v := 0) hx hb dX3_readPart_103 (by decide) ?_
          refine W.widen (k := 0) (n := 0) (Nat.le_of_ble_eq_true rfl) (Nat.le_of_ble_eq_true rfl) ?_
          exact W.zret (v := 0) hx hb hr rfl (QG_.mk (fun _ => 0) (fun _ => 0) (fun _ => 0) [0, 1, 2] [0, 1] hP hD hK hS (by rw [hM]) (by rw [hM]; exact ⟨(show pl.toInt ≤ pl.toInt from (by have y0 := f_nlt c_1; have y1 := f_nle c_2; have y2 := f_nlt c_3; have y3 := f_lt c_4; have z0 := hy0; have z1 := hy1; have z2 := hy2; have z3 := hy3; have e_0 : (0 : Int32).toInt = 0 := (by decide +kernel); have e_48 : (48 : Int32).toInt = 48 := (by decide +kernel); have e_57 : (57 : Int32).toInt = 57 := (by decide +kernel); have b17 := Int32.toInt_lt (pl); have d17 := Int32.le_toInt (pl); have x0 := ix_toNat pl; omega)), (show pl.toInt ≤ pl.toInt + 1 from (by have y0 := f_nlt c_1; have y1 := f_nle c_2; have y2 := f_nlt c_3; have y3 := f_lt c_4; have z0 := hy0; have z1 := hy1; have z2 := hy2; have z3 := hy3; have e_0 : (0 : Int32).toInt = 0 := (by decide +kernel); have e_48 : (48 : Int32).toInt = 48 := (by decide +kernel); have e_57 : (57 : Int32).toInt = 57 := (by decide +kernel); have b18 := Int32.toInt_lt (pl); have d18 := Int32.le_toInt (pl); have x0 := ix_toNat pl; omega)), (show (pl.toInt ≤ 60 ∨ pl.toInt = pl.toInt) from (by have y0 := f_nlt c_1; have y1 := f_nle c_2; have y2 := f_nlt c_3; have y3 := f_lt c_4; have z0 := hy0; have z1 := hy1; have z2 := hy2; have z3 := hy3; have e_0 : (0 : Int32).toInt = 0 := (by decide +kernel); have e_48 : (48 : Int32).toInt = 48 := (by decide +kernel); have e_57 : (57 : Int32).toInt = 57 := (by decide +kernel); have b19 := Int32.toInt_lt (pl); have d19 := Int32.le_toInt (pl); have b20 := Int32.toInt_lt (pl); have d20 := Int32.le_toInt (pl); have x0 := ix_toNat pl; omega))⟩) (by first | (rw [hM]; rfl) | rfl) (by decide) rfl) hS.2.2 dX3_readPart_104
        · rw [if_neg c_4] at hM
          refine lv_iconst (v := 1) hx hb dX3_readPart_45 (by decide) ?_
          refine lv_goto (tgt := 50) hx hb dX3_readPart_46 (by decide) ?_
          refine lv_istore_n (lv' := [(3, .int 1), (2, .int (sg (ix pl))), (0, .ref h_T), (1, .int 49)]) hx hb dX3_readPart_50 rfl hl (by decide) rfl (fun ls hl => ?_)
          refine lv_iload_n hx hb dX3_readPart_51 rfl (lv_at hl 3 rfl) ?_
          refine lv_bipush (v := 61) hx hb dX3_readPart_52 (by decide) ?_
          refine lv_icmp_ne (tgt := 89) hx hb dX3_readPart_54 (by decide) (fun _ => ?_) (fun c9 => absurd c9 (by decide +kernel))
          refine lv_iload_n hx hb dX3_readPart_89 rfl (lv_at hl 0 rfl) ?_
          refine lv_if_ne (tgt := 105) hx hb dX3_readPart_90 (by decide) (fun _ => ?_) (fun c9 => absurd c9 (by decide +kernel))
          refine lv_iload_n hx hb dX3_readPart_105 rfl (lv_at hl 3 rfl) ?_
          refine lv_bipush (v := 63) hx hb dX3_readPart_106 (by decide) ?_
          refine lv_icmp_ne (tgt := 115) hx hb dX3_readPart_108 (by decide) (fun _ => ?_) (fun c9 => absurd c9 (by decide +kernel))
          refine lv_iload_n hx hb dX3_readPart_115 rfl (lv_at hl 3 rfl) ?_
          refine lv_bipush (v := 48) hx hb dX3_readPart_116 (by decide) ?_
          refine lv_isub hx hb dX3_readPart_118 ?_
          refine kt_ (v := 1) (by decide +kernel) ?_
          refine lv_istore (lv' := [(4, .int 1), (3, .int 1), (2, .int (sg (ix pl))), (0, .ref h_T), (1, .int 49)]) hx hb dX3_readPart_119 hl (by decide) rfl (fun ls hl => ?_)
          refine lv_iload hx hb dX3_readPart_121 (lv_at hl 0 rfl) ?_
          refine lv_if_lt (tgt := 154) hx hb dX3_readPart_123 (by decide) (fun c9 => absurd c9 (by decide +kernel)) (fun _ => ?_)
          refine lv_iload hx hb dX3_readPart_126 (lv_at hl 0 rfl) ?_
          refine lv_iconst (v := 3) hx hb dX3_readPart_128 (by decide) ?_
          refine lv_icmp_ge (tgt := 154) hx hb dX3_readPart_129 (by decide) (fun c9 => absurd c9 (by decide +kernel)) (fun _ => ?_)
          refine lv_aload_n hx hb dX3_readPart_132 rfl (lv_at hl 3 rfl) ?_
          refine va_get (D := D) (ci := 6) (v := .ref h_nu) (own := RX3) (C := RX3) (T := TX3) (N := 5) hx hb hts hi_X3 hown hK hP 2 rfl rfl 4 (by decide) (hts (.fieldLink RX3 31 "CanalMaps$CommandText" "numbers" "[I") (List.mem_of_getElem? (i := 4) (by decide +kernel))) (fun _ h9 => h9) rfl dX3_readPart_133 ?_
          refine lv_iload hx hb dX3_readPart_136 (lv_at hl 0 rfl) ?_
          refine lv_aload_n hx hb dX3_readPart_138 rfl (lv_at hl 3 rfl) ?_
          refine va_get (D := D) (ci := 6) (v := .ref h_nu) (own := RX3) (C := RX3) (T := TX3) (N := 5) hx hb hts hi_X3 hown hK hP 2 rfl rfl 4 (by decide) (hts (.fieldLink RX3 31 "CanalMaps$CommandText" "numbers" "[I") (List.mem_of_getElem? (i := 4) (by decide +kernel))) (fun _ h9 => h9) rfl dX3_readPart_139 ?_
          refine lv_iload hx hb dX3_readPart_142 (lv_at hl 0 rfl) ?_
          refine va_iald hx hb hK hP 1 1 rfl rfl (vin_ (by decide +kernel)) dX3_readPart_144 ?_
          refine kt_ (v := (nu 1)) (congrArg nu (by decide +kernel)) ?_
          refine lv_bipush (v := 10) hx hb dX3_readPart_145 (by decide) ?_
          refine lv_imul hx hb dX3_readPart_147 ?_
          refine lv_iload_n hx hb dX3_readPart_148 rfl (lv_at hl 2 rfl) ?_
          refine lv_iadd hx hb dX3_readPart_149 ?_
          refine lv_bipush (v := 48) hx hb dX3_readPart_150 (by decide) ?_
          refine lv_isub hx hb dX3_readPart_152 ?_
          refine ka_iast (g := (upd nu 1 ((((nu 1) * 10) + (sg (ix pl))) - 48))) hx hb hK hP hD hS 1 1 rfl rfl (vin_ (by decide +kernel)) (congrArg (fun z9 => upd _ z9 _) (by decide +kernel)) dX3_readPart_153 (fun H locs hP hD hS => ?_)
          have hP : va_P D vwCl [(h_sg, .inl (k_sg, 60, .inl sg)), (h_nu, .inl (k_nu, 3, .inl (upd nu 1 ((((nu 1) * 10) + (sg (ix pl))) - 48)))), (h_T, .inr (6, [.ref h_sg, .int ln, .int pl, h_T_3, .ref h_nu]))] H := hP
          have hD : va_D A [(h_sg, .inl (k_sg, 60, .inl sg)), (h_nu, .inl (k_nu, 3, .inl (upd nu 1 ((((nu 1) * 10) + (sg (ix pl))) - 48)))), (h_T, .inr (6, [.ref h_sg, .int ln, .int pl, h_T_3, .ref h_nu]))] := hD
          refine lv_aload_n hx hb dX3_readPart_154 rfl (lv_at hl 3 rfl) ?_
          refine lv_dup hx hb dX3_readPart_155 rfl ?_
          refine va_get (D := D) (ci := 6) (v := .int pl) (own := RX3) (C := RX3) (T := TX3) (N := 5) hx hb hts hi_X3 hown hK hP 2 rfl rfl 2 (by decide) (hts (.fieldLink RX3 19 "CanalMaps$CommandText" "place" "I") (List.mem_of_getElem? (i := 1) (by decide +kernel))) (fun _ h9 => h9) rfl dX3_readPart_156 ?_
          refine lv_iconst (v := 1) hx hb dX3_readPart_159 (by decide) ?_
          refine lv_iadd hx hb dX3_readPart_160 ?_
          refine va_put (D := D) (ci := 6) (v := .int (pl + 1)) (ty := .int) (own := RX3) (C := RX3) (T := TX3) (N := 5) hx hb hts hi_X3 tyX3 tyX3_ok nmX3 hown hK hP hD hS 2 rfl rfl 2 (by decide) (hts (.fieldLink RX3 19 "CanalMaps$CommandText" "place" "I") (List.mem_of_getElem? (i := 1) (by decide +kernel))) (fun _ h9 => h9) rfl (by decide +kernel) rfl rfl (Nat.le_of_ble_eq_true rfl) dX3_readPart_161 (fun H locs hP hD hS => ?_)
          have hP : va_P D vwCl [(h_sg, .inl (k_sg, 60, .inl sg)), (h_nu, .inl (k_nu, 3, .inl (upd nu 1 ((((nu 1) * 10) + (sg (ix pl))) - 48)))), (h_T, .inr (6, [.ref h_sg, .int ln, .int (pl + 1), h_T_3, .ref h_nu]))] H := hP
          have hD : va_D A [(h_sg, .inl (k_sg, 60, .inl sg)), (h_nu, .inl (k_nu, 3, .inl (upd nu 1 ((((nu 1) * 10) + (sg (ix pl))) - 48)))), (h_T, .inr (6, [.ref h_sg, .int ln, .int (pl + 1), h_T_3, .ref h_nu]))] := hD
          refine lv_iconst (v := 1) hx hb dX3_readPart_164 (by decide) ?_
          refine W.widen (k := 0) (n := 0) (Nat.le_of_ble_eq_true rfl) (Nat.le_of_ble_eq_true rfl) ?_
          exact W.zret (v := 1) hx hb hr rfl (QG_.mk (fun _ => 0) (fun _ => 0) (fun _ => 0) [0, 1, 2] [0, 1] hP hD hK hS (by rw [hM]) (by rw [hM]; exact ⟨(show pl.toInt ≤ (pl + 1).toInt from (by have y0 := f_nlt c_1; have y1 := f_nle c_2; have y2 := f_nlt c_3; have y3 := f_nlt c_4; have z0 := hy0; have z1 := hy1; have z2 := hy2; have z3 := hy3; have e_0 : (0 : Int32).toInt = 0 := (by decide +kernel); have e_48 : (48 : Int32).toInt = 48 := (by decide +kernel); have e_57 : (57 : Int32).toInt = 57 := (by decide +kernel); have b22 := Int32.toInt_lt (pl); have d22 := Int32.le_toInt (pl); have l23 : (1 : Int32).toInt = 1 := (by decide +kernel); have q21 := addI (a := pl) (b := 1) (by omega) (by omega); have x0 := ix_toNat pl; omega)), (show (pl + 1).toInt ≤ pl.toInt + 1 from (by have y0 := f_nlt c_1; have y1 := f_nle c_2; have y2 := f_nlt c_3; have y3 := f_nlt c_4; have z0 := hy0; have z1 := hy1; have z2 := hy2; have z3 := hy3; have e_0 : (0 : Int32).toInt = 0 := (by decide +kernel); have e_48 : (48 : Int32).toInt = 48 := (by decide +kernel); have e_57 : (57 : Int32).toInt = 57 := (by decide +kernel); have b25 := Int32.toInt_lt (pl); have d25 := Int32.le_toInt (pl); have l26 : (1 : Int32).toInt = 1 := (by decide +kernel); have q24 := addI (a := pl) (b := 1) (by omega) (by omega); have x0 := ix_toNat pl; omega)), (show ((pl + 1).toInt ≤ 60 ∨ (pl + 1).toInt = pl.toInt) from (by have y0 := f_nlt c_1; have y1 := f_nle c_2; have y2 := f_nlt c_3; have y3 := f_nlt c_4; have z0 := hy0; have z1 := hy1; have z2 := hy2; have z3 := hy3; have e_0 : (0 : Int32).toInt = 0 := (by decide +kernel); have e_48 : (48 : Int32).toInt = 48 := (by decide +kernel); have e_57 : (57 : Int32).toInt = 57 := (by decide +kernel); have b28 := Int32.toInt_lt (pl); have d28 := Int32.le_toInt (pl); have l29 : (1 : Int32).toInt = 1 := (by decide +kernel); have q27 := addI (a := pl) (b := 1) (by omega) (by omega); have b31 := Int32.toInt_lt (pl); have d31 := Int32.le_toInt (pl); have l32 : (1 : Int32).toInt = 1 := (by decide +kernel); have q30 := addI (a := pl) (b := 1) (by omega) (by omega); have x0 := ix_toNat pl; omega))⟩) (by first | (rw [hM]; rfl) | rfl) (by decide) rfl) hS.2.2 dX3_readPart_165
def F_J1_charAt_3b067_2_ad41  : Int32 := 61
set_option maxHeartbeats 4000000 in
set_option maxRecDepth 100000 in
theorem c_J1_charAt_3b067_2_ad41 (l : Launch) (hl0 : l.stackTraces = false) (D : va_G) (ad : Nat → Nat) (sz : Nat)  : Met l yJ1_charAt_3b067 wsJ1_charAt_3b067 ({ frames := 2, cells := 0, slots := 0, locals := 47 }) (PR_ D ad [] [] sz [.ref (ad 41), .int 2]) (QR_ (.int (F_J1_charAt_3b067_2_ad41)) (va_A [] sz)) 0 0 (va_A [] sz) := by
  refine Met.ofW (cc := cJ1_charAt_3b067) (maxL := 2) (ret := (some .char)) (by decide) rfl ?_
  intro p e s m args below meth c s₁ B hml hv
  obtain ⟨rfl, hsz, hP, hK, hF⟩ := hv
  have hx := B.exec
  have hb := B.bytes
  have hr := B.returns
  have hts := atoms_spec (ws := wsJ1_charAt_3b067) B.pre
  have hown : s.vm.findClass RJ1 = some m.cls := findClass_of_methodNamed B.named
  have hlocks := B.notSynchronized
  subst hsz
  generalize hAe : va_A [] s.heap.size = A at hF ⊢
  have hA : ∀ q : Nat, s.heap.size ≤ q → A q := fun q h => by rw [← hAe]; exact Or.inr h
  obtain ⟨H, hHe⟩ : ∃ H : Heap, H = s.heap := ⟨_, rfl⟩
  have hS : va_S A s.heap H [] := by rw [hHe]; exact va_S.rf
  have hP : va_P D vwCl [] H := by rw [hHe]; exact hP
  rw [← hHe]
  have hl := lv_entry [.ref (ad 41), .int 2] (n := 2) (Nat.le_of_ble_eq_true rfl)
  rw [lg_entry_eq]
  generalize (lg_sl [.ref (ad 41), .int 2] ++ List.replicate (2 - (lg_sl [.ref (ad 41), .int 2]).length) Slot.unset).toArray = ls at hl ⊢
  have hl : lv_has ls 2 [(0, .ref (ad 41)), (1, .int 2)] := hl
  have hM : F_J1_charAt_3b067_2_ad41 = 61 := rfl
  refine lv_iload_n hx hb dJ1_charAt_3b067_0 rfl (lv_at hl 1 rfl) ?_
  refine lv_aload_n hx hb dJ1_charAt_3b067_1 rfl (lv_at hl 0 rfl) ?_
  refine va_tlen (v := 4) hx hb ((fxst_ hF).1 1 (by decide)).2.2.2 hS rfl dJ1_charAt_3b067_2 ?_
  refine krv_ (va_runS (As := [.int 2, .int 4]) (rest := []) ⟨hx, hb, hml, hown, hts⟩ (c_J0_checkIndex_df160 l hl0 D ad H.size 2 4 (by decide +kernel) (by decide +kernel)) (va_cwS 2 hts gJ1_charAt_3b067_J0_checkIndex_df160 rfl rfl rfl (by decide +kernel) ⟨Nat.le_of_ble_eq_true rfl, Nat.le_of_ble_eq_true rfl⟩) ⟨PR_.blind, PR_.pre hF hK (hP.sub [] rfl) hS hA [] rfl⟩ rfl rfl hl.1 rfl (lv_room (Nat.le_of_ble_eq_true rfl)) dJ1_charAt_3b067_3 ⟨(Nat.le_of_ble_eq_true rfl), (Nat.le_of_ble_eq_true rfl)⟩) hP hS hA (fun H locs hP hS => ?_)
  refine W.eq (g2 := F0 m 6 ls []) rfl ?_
  refine lv_aload_n hx hb dJ1_charAt_3b067_6 rfl (lv_at hl 0 rfl) ?_
  refine lv_iload_n hx hb dJ1_charAt_3b067_7 rfl (lv_at hl 1 rfl) ?_
  refine va_tb (v := .int 61) hx hb ((fxst_ hF).1 1 (by decide)).2.2.2 hS (vin_ (by decide +kernel)) rfl dJ1_charAt_3b067_8 ?_
  refine lv_sipush (v := 255) hx hb dJ1_charAt_3b067_9 (by decide +kernel) ?_
  refine lv_iand hx hb dJ1_charAt_3b067_12 ?_
  refine kt_ (v := 61) (by decide +kernel) ?_
  refine lv_i2c (v := 61) hx hb dJ1_charAt_3b067_13 (by decide +kernel) ?_
  refine W.widen (k := 0) (n := 0) (Nat.le_of_ble_eq_true rfl) (Nat.le_of_ble_eq_true rfl) ?_
  exact W.zret (v := 61) hx hb hr rfl (QR_.mk hS (by rw [hM])) hS.2.2 dJ1_charAt_3b067_14
def F_J0_charAt_5068e_2_ad21  : Int32 := 61
set_option maxHeartbeats 4000000 in
set_option maxRecDepth 100000 in
theorem c_J0_charAt_5068e_2_ad21 (l : Launch) (hl0 : l.stackTraces = false) (D : va_G) (ad : Nat → Nat) (sz : Nat)  : Met l yJ0_charAt_5068e wsJ0_charAt_5068e ({ frames := 3, cells := 0, slots := 0, locals := 70 }) (PR_ D ad [] [] sz [.ref (ad 21), .int 2]) (QR_ (.int (F_J0_charAt_5068e_2_ad21)) (va_A [] sz)) 0 0 (va_A [] sz) := by
  refine Met.ofW (cc := cJ0_charAt_5068e) (maxL := 2) (ret := (some .char)) (by decide) rfl ?_
  intro p e s m args below meth c s₁ B hml hv
  obtain ⟨rfl, hsz, hP, hK, hF⟩ := hv
  have hx := B.exec
  have hb := B.bytes
  have hr := B.returns
  have hts := atoms_spec (ws := wsJ0_charAt_5068e) B.pre
  have hown : s.vm.findClass RJ0 = some m.cls := findClass_of_methodNamed B.named
  have hlocks := B.notSynchronized
  subst hsz
  generalize hAe : va_A [] s.heap.size = A at hF ⊢
  have hA : ∀ q : Nat, s.heap.size ≤ q → A q := fun q h => by rw [← hAe]; exact Or.inr h
  obtain ⟨H, hHe⟩ : ∃ H : Heap, H = s.heap := ⟨_, rfl⟩
  have hS : va_S A s.heap H [] := by rw [hHe]; exact va_S.rf
  have hP : va_P D vwCl [] H := by rw [hHe]; exact hP
  rw [← hHe]
  have hl := lv_entry [.ref (ad 21), .int 2] (n := 2) (Nat.le_of_ble_eq_true rfl)
  rw [lg_entry_eq]
  generalize (lg_sl [.ref (ad 21), .int 2] ++ List.replicate (2 - (lg_sl [.ref (ad 21), .int 2]).length) Slot.unset).toArray = ls at hl ⊢
  have hl : lv_has ls 2 [(0, .ref (ad 21)), (1, .int 2)] := hl
  have hM : F_J0_charAt_5068e_2_ad21 = 61 := rfl
  refine lv_aload_n hx hb dJ0_charAt_5068e_0 rfl (lv_at hl 0 rfl) ?_
  refine kr_ (va_runV (As := []) (rest := []) ⟨hx, hb, hml, hown, hts⟩ (c_J0_isLatin1_aae02_ad21 l hl0 D ad H.size) (cwV 0 hts gJ0_charAt_5068e_J0_isLatin1_aae02 rfl rfl rfl (by decide +kernel) ⟨Nat.le_of_ble_eq_true rfl, Nat.le_of_ble_eq_true rfl⟩) ⟨PR_.blind, vk_recv (fxst_ hF) (i := 1) (by decide) hS, PR_.pre hF hK (hP.sub [] rfl) hS hA [] rfl⟩ rfl rfl hl.1 rfl (lv_room (Nat.le_of_ble_eq_true rfl)) dJ0_charAt_5068e_1 ⟨(Nat.le_of_ble_eq_true rfl), (Nat.le_of_ble_eq_true rfl)⟩) hP hS hA (fun H locs hP hS => ?_)
  refine W.eq (g2 := F0 m 4 ls [.int 1]) rfl ?_
  refine lv_if_eq (tgt := 16) hx hb dJ0_charAt_5068e_4 (by decide) (fun c9 => absurd c9 (by decide +kernel)) (fun _ => ?_)
  refine lv_aload_n hx hb dJ0_charAt_5068e_7 rfl (lv_at hl 0 rfl) ?_
  refine vk_getf (o := "java/lang/String") (n := "value") (d := "[B") (q := ad 21) (v := .ref (ad 41)) hx hb ((fxst_ hF).1 1 (by decide)).2.2.1 hS hown (hts (.fieldLink RJ0 9 "java/lang/String" "value" "[B") (List.mem_of_getElem? (i := 1) (by decide +kernel))) (fun _ h9 => h9) dJ0_charAt_5068e_8 ?_
  refine lv_iload_n hx hb dJ0_charAt_5068e_11 rfl (lv_at hl 1 rfl) ?_
  refine kr_ (va_runS (As := [.ref (ad 41), .int 2]) (rest := []) ⟨hx, hb, hml, hown, hts⟩ (c_J1_charAt_3b067_2_ad41 l hl0 D ad H.size) (va_cwS 2 hts gJ0_charAt_5068e_J1_charAt_3b067 rfl rfl rfl (by decide +kernel) ⟨Nat.le_of_ble_eq_true rfl, Nat.le_of_ble_eq_true rfl⟩) ⟨PR_.blind, PR_.pre hF hK (hP.sub [] rfl) hS hA [] rfl⟩ rfl rfl hl.1 rfl (lv_room (Nat.le_of_ble_eq_true rfl)) dJ0_charAt_5068e_12 ⟨(Nat.le_of_ble_eq_true rfl), (Nat.le_of_ble_eq_true rfl)⟩) hP hS hA (fun H locs hP hS => ?_)
  refine W.eq (g2 := F0 m 15 ls [.int 61]) rfl ?_
  refine W.widen (k := 0) (n := 0) (Nat.le_of_ble_eq_true rfl) (Nat.le_of_ble_eq_true rfl) ?_
  exact W.zret (v := 61) hx hb hr rfl (QR_.mk hS (by rw [hM])) hS.2.2 dJ0_charAt_5068e_15
def F_X3_readPart_61 (sg : Nat → Int32) (ln : Int32) (pl : Int32) : Int32 × Int32 := (if pl < 0 then (0, (pl + 0)) else (if ln ≤ pl then (0, (pl + 0)) else (if (sg (ix pl)) < 48 then (if (sg (ix pl)) = 61 then (1, (pl + 1)) else (0, (pl + 0))) else (if 57 < (sg (ix pl)) then (if (sg (ix pl)) = 61 then (1, (pl + 1)) else (0, (pl + 0))) else (if (sg (ix pl)) = 61 then (1, (pl + 1)) else (0, (pl + 0)))))))
set_option maxHeartbeats 4000000 in
set_option maxRecDepth 100000 in
theorem c_X3_readPart_61 (l : Launch) (hl0 : l.stackTraces = false) (D : va_G) (ad : Nat → Nat) (sz : Nat) (h_sg : Nat) (h_T : Nat) (k_sg : ClassId) (h_T_3 : Value) (h_T_4 : Value) (sg : Nat → Int32) (ln : Int32) (pl : Int32) (hy0 : 0 ≤ ln.toInt) (hy1 : ln.toInt ≤ 60) (hy2 : 0 ≤ pl.toInt) (hy3 : pl.toInt ≤ 200) : Met l yX3_readPart wsX3_readPart ({ frames := 0, cells := 0, slots := 0, locals := 0 }) (PC_ D ad [(h_sg, .inl (k_sg, 60, .inl sg)), (h_T, .inr (6, [.ref h_sg, .int ln, .int pl, h_T_3, h_T_4]))] [(k_sg, .char)] sz [.ref h_T, .int 61]) (QG_ D (fun q i => some (.int (F_X3_readPart_61 sg ln pl).1)) (fun q i => pl.toInt ≤ ((F_X3_readPart_61 sg ln pl).2).toInt ∧ ((F_X3_readPart_61 sg ln pl).2).toInt ≤ pl.toInt + 1 ∧ (((F_X3_readPart_61 sg ln pl).2).toInt ≤ 60 ∨ ((F_X3_readPart_61 sg ln pl).2).toInt = pl.toInt)) (fun q k i => [(h_sg, .inl (k_sg, 60, .inl sg)), (h_T, .inr (6, [.ref h_sg, .int ln, .int (F_X3_readPart_61 sg ln pl).2, h_T_3, h_T_4]))]) (fun q k i => [(k_sg, .char)]) (va_A [(h_sg, .inl (k_sg, 60, .inl sg)), (h_T, .inr (6, [.ref h_sg, .int ln, .int pl, h_T_3, h_T_4]))] sz)) 0 0 (va_A [(h_sg, .inl (k_sg, 60, .inl sg)), (h_T, .inr (6, [.ref h_sg, .int ln, .int pl, h_T_3, h_T_4]))] sz) := by
  refine Met.ofW (cc := cX3_readPart) (maxL := 5) (ret := (some .boolean)) (by decide) rfl ?_
  intro p e s m args below meth c s₁ B hml hv
  obtain ⟨rfl, hsz, hP, hK, hD0, hF⟩ := hv
  have hx := B.exec
  have hb := B.bytes
  have hr := B.returns
  have hts := atoms_spec (ws := wsX3_readPart) B.pre
  have hown : s.vm.findClass RX3 = some m.cls := findClass_of_methodNamed B.named
  have hlocks := B.notSynchronized
  subst hsz
  have hD := hD0.self (sz := s.heap.size)
  generalize hAe : va_A [(h_sg, .inl (k_sg, 60, .inl sg)), (h_T, .inr (6, [.ref h_sg, .int ln, .int pl, h_T_3, h_T_4]))] s.heap.size = A at hD hF ⊢
  have hA : ∀ q : Nat, s.heap.size ≤ q → A q := fun q h => by rw [← hAe]; exact Or.inr h
  obtain ⟨H, hHe⟩ : ∃ H : Heap, H = s.heap := ⟨_, rfl⟩
  have hS : va_S A s.heap H [] := by rw [hHe]; exact va_S.rf
  have hP : va_P D vwCl [(h_sg, .inl (k_sg, 60, .inl sg)), (h_T, .inr (6, [.ref h_sg, .int ln, .int pl, h_T_3, h_T_4]))] H := by rw [hHe]; exact hP
  rw [← hHe]
  have hi_X3 : ∀ w ∈ wsX30, w ∈ wsX3_readPart := by decide +kernel
  have hl := lv_entry [.ref h_T, .int 61] (n := 5) (Nat.le_of_ble_eq_true rfl)
  rw [lg_entry_eq]
  generalize (lg_sl [.ref h_T, .int 61] ++ List.replicate (5 - (lg_sl [.ref h_T, .int 61]).length) Slot.unset).toArray = ls at hl ⊢
  have hl : lv_has ls 5 [(0, .ref h_T), (1, .int 61)] := hl
  have hM : F_X3_readPart_61 sg ln pl = (if pl < 0 then (0, (pl + 0)) else (if ln ≤ pl then (0, (pl + 0)) else (if (sg (ix pl)) < 48 then (if (sg (ix pl)) = 61 then (1, (pl + 1)) else (0, (pl + 0))) else (if 57 < (sg (ix pl)) then (if (sg (ix pl)) = 61 then (1, (pl + 1)) else (0, (pl + 0))) else (if (sg (ix pl)) = 61 then (1, (pl + 1)) else (0, (pl + 0))))))) := rfl
  refine lv_aload_n hx hb dX3_readPart_0 rfl (lv_at hl 0 rfl) ?_
  refine va_get (D := D) (ci := 6) (v := .int pl) (own := RX3) (C := RX3) (T := TX3) (N := 5) hx hb hts hi_X3 hown hK hP 1 rfl rfl 2 (by decide) (hts (.fieldLink RX3 19 "CanalMaps$CommandText" "place" "I") (List.mem_of_getElem? (i := 1) (by decide +kernel))) (fun _ h9 => h9) rfl dX3_readPart_1 ?_
  refine lv_if_lt (tgt := 30) hx hb dX3_readPart_4 (by decide) (fun c_1 => ?_) (fun c_1 => ?_)
  · rw [if_pos c_1] at hM
    refine lv_bipush (v := 32) hx hb dX3_readPart_30 (by decide) ?_
    refine lv_istore_n (lv' := [(2, .int 32), (0, .ref h_T), (1, .int 61)]) hx hb dX3_readPart_32 rfl hl (by decide) rfl (fun ls hl => ?_)
    refine lv_iload_n hx hb dX3_readPart_33 rfl (lv_at hl 0 rfl) ?_
    refine lv_bipush (v := 48) hx hb dX3_readPart_34 (by decide) ?_
    refine lv_icmp_lt (tgt := 49) hx hb dX3_readPart_36 (by decide) (fun _ => ?_) (fun c9 => absurd (by decide +kernel) c9)
    refine lv_iconst (v := 0) hx hb dX3_readPart_49 (by decide) ?_
    refine lv_istore_n (lv' := [(3, .int 0), (2, .int 32), (0, .ref h_T), (1, .int 61)]) hx hb dX3_readPart_50 rfl hl (by decide) rfl (fun ls hl => ?_)
    refine lv_iload_n hx hb dX3_readPart_51 rfl (lv_at hl 3 rfl) ?_
    refine lv_bipush (v := 61) hx hb dX3_readPart_52 (by decide) ?_
    refine lv_icmp_ne (tgt := 89) hx hb dX3_readPart_54 (by decide) (fun c9 => absurd (by decide +kernel) c9) (fun _ => ?_)
    refine lv_aload_n hx hb dX3_readPart_57 rfl (lv_at hl 2 rfl) ?_
    refine lv_dup hx hb dX3_readPart_58 rfl ?_
    refine va_get (D := D) (ci := 6) (v := .int pl) (own := RX3) (C := RX3) (T := TX3) (N := 5) hx hb hts hi_X3 hown hK hP 1 rfl rfl 2 (by decide) (hts (.fieldLink RX3 19 "CanalMaps$CommandText" "place" "I") (List.mem_of_getElem? (i := 1) (by decide +kernel))) (fun _ h9 => h9) rfl dX3_readPart_59 ?_
    refine lv_iload_n hx hb dX3_readPart_62 rfl (lv_at hl 1 rfl) ?_
    refine lv_bipush (v := 61) hx hb dX3_readPart_63 (by decide) ?_
    refine lv_icmp_ne (tgt := 72) hx hb dX3_readPart_65 (by decide) (fun _ => ?_) (fun c9 => absurd c9 (by decide +kernel))
    refine lv_iconst (v := 0) hx hb dX3_readPart_72 (by decide) ?_
    refine lv_iadd hx hb dX3_readPart_73 ?_
    refine va_put (D := D) (ci := 6) (v := .int (pl + 0)) (ty := .int) (own := RX3) (C := RX3) (T := TX3) (N := 5) hx hb hts hi_X3 tyX3 tyX3_ok nmX3 hown hK hP hD hS 1 rfl rfl 2 (by decide) (hts (.fieldLink RX3 19 "CanalMaps$CommandText" "place" "I") (List.mem_of_getElem? (i := 1) (by decide +kernel))) (fun _ h9 => h9) rfl (by decide +kernel) rfl rfl (Nat.le_of_ble_eq_true rfl) dX3_readPart_74 (fun H locs hP hD hS => ?_)
    have hP : va_P D vwCl [(h_sg, .inl (k_sg, 60, .inl sg)), (h_T, .inr (6, [.ref h_sg, .int ln, .int (pl + 0), h_T_3, h_T_4]))] H := hP
    have hD : va_D A [(h_sg, .inl (k_sg, 60, .inl sg)), (h_T, .inr (6, [.ref h_sg, .int ln, .int (pl + 0), h_T_3, h_T_4]))] := hD
    refine lv_iload_n hx hb dX3_readPart_77 rfl (lv_at hl 1 rfl) ?_
    refine lv_bipush (v := 61) hx hb dX3_readPart_78 (by decide) ?_
    refine lv_icmp_ne (tgt := 87) hx hb dX3_readPart_80 (by decide) (fun _ => ?_) (fun c9 => absurd c9 (by decide +kernel))
    refine lv_iconst (v := 0) hx hb dX3_readPart_87 (by decide) ?_
    refine W.widen (k := 0) (n := 0) (Nat.le_of_ble_eq_true rfl) (Nat.le_of_ble_eq_true rfl) ?_
    exact W.zret (v := 0) hx hb hr rfl (QG_.mk (fun _ => 0) (fun _ => 0) (fun _ => 0) [0, 1] [0] hP hD hK hS (by rw [hM]) (by rw [hM]; exact ⟨(show pl.toInt ≤ (pl + 0).toInt from (by have y0 := f_lt c_1; have z0 := hy0; have z1 := hy1; have z2 := hy2; have z3 := hy3; have e_0 : (0 : Int32).toInt = 0 := (by decide +kernel); have b5 := Int32.toInt_lt (pl); have d5 := Int32.le_toInt (pl); have l6 : (0 : Int32).toInt = 0 := (by decide +kernel); have q4 := addI (a := pl) (b := 0) (by omega) (by omega); omega)), (show (pl + 0).toInt ≤ pl.toInt + 1 from (by have y0 := f_lt c_1; have z0 := hy0; have z1 := hy1; have z2 := hy2; have z3 := hy3; have e_0 : (0 : Int32).toInt = 0 := (by decide +kernel); have b8 := Int32.toInt_lt (pl); have d8 := Int32.le_toInt (pl); have l9 : (0 : Int32).toInt = 0 := (by decide +kernel); have q7 := addI (a := pl) (b := 0) (by omega) (by omega); omega)), (show ((pl + 0).toInt ≤ 60 ∨ (pl + 0).toInt = pl.toInt) from (by have y0 := f_lt c_1; have z0 := hy0; have z1 := hy1; have z2 := hy2; have z3 := hy3; have e_0 : (0 : Int32).toInt = 0 := (by decide +kernel); have b11 := Int32.toInt_lt (pl); have d11 := Int32.le_toInt (pl); have l12 : (0 : Int32).toInt = 0 := (by decide +kernel); have q10 := addI (a := pl) (b := 0) (by omega) (by omega); have b14 := Int32.toInt_lt (pl); have d14 := Int32.le_toInt (pl); have l15 : (0 : Int32).toInt = 0 := (by decide +kernel); have q13 := addI (a := pl) (b := 0) (by omega) (by omega); omega))⟩) (by first | (rw [hM]; rfl) | rfl) (by decide) rfl) hS.2.2 dX3_readPart_88
  · rw [if_neg c_1] at hM
    refine lv_aload_n hx hb dX3_readPart_7 rfl (lv_at hl 0 rfl) ?_
    refine va_get (D := D) (ci := 6) (v := .int pl) (own := RX3) (C := RX3) (T := TX3) (N := 5) hx hb hts hi_X3 hown hK hP 1 rfl rfl 2 (by decide) (hts (.fieldLink RX3 19 "CanalMaps$CommandText" "place" "I") (List.mem_of_getElem? (i := 1) (by decide +kernel))) (fun _ h9 => h9) rfl dX3_readPart_8 ?_
    refine lv_aload_n hx hb dX3_readPart_11 rfl (lv_at hl 0 rfl) ?_
    refine va_get (D := D) (ci := 6) (v := .int ln) (own := RX3) (C := RX3) (T := TX3) (N := 5) hx hb hts hi_X3 hown hK hP 1 rfl rfl 1 (by decide) (hts (.fieldLink RX3 15 "CanalMaps$CommandText" "length" "I") (List.mem_of_getElem? (i := 2) (by decide +kernel))) (fun _ h9 => h9) rfl dX3_readPart_12 ?_
    refine lv_icmp_ge (tgt := 30) hx hb dX3_readPart_15 (by decide) (fun c_2 => ?_) (fun c_2 => ?_)
    · rw [if_pos c_2] at hM
      refine lv_bipush (v := 32) hx hb dX3_readPart_30 (by decide) ?_
      refine lv_istore_n (lv' := [(2, .int 32), (0, .ref h_T), (1, .int 61)]) hx hb dX3_readPart_32 rfl hl (by decide) rfl (fun ls hl => ?_)
      refine lv_iload_n hx hb dX3_readPart_33 rfl (lv_at hl 0 rfl) ?_
      refine lv_bipush (v := 48) hx hb dX3_readPart_34 (by decide) ?_
      refine lv_icmp_lt (tgt := 49) hx hb dX3_readPart_36 (by decide) (fun _ => ?_) (fun c9 => absurd (by decide +kernel) c9)
      refine lv_iconst (v := 0) hx hb dX3_readPart_49 (by decide) ?_
      refine lv_istore_n (lv' := [(3, .int 0), (2, .int 32), (0, .ref h_T), (1, .int 61)]) hx hb dX3_readPart_50 rfl hl (by decide) rfl (fun ls hl => ?_)
      refine lv_iload_n hx hb dX3_readPart_51 rfl (lv_at hl 3 rfl) ?_
      refine lv_bipush (v := 61) hx hb dX3_readPart_52 (by decide) ?_
      refine lv_icmp_ne (tgt := 89) hx hb dX3_readPart_54 (by decide) (fun c9 => absurd (by decide +kernel) c9) (fun _ => ?_)
      refine lv_aload_n hx hb dX3_readPart_57 rfl (lv_at hl 2 rfl) ?_
      refine lv_dup hx hb dX3_readPart_58 rfl ?_
      refine va_get (D := D) (ci := 6) (v := .int pl) (own := RX3) (C := RX3) (T := TX3) (N := 5) hx hb hts hi_X3 hown hK hP 1 rfl rfl 2 (by decide) (hts (.fieldLink RX3 19 "CanalMaps$CommandText" "place" "I") (List.mem_of_getElem? (i := 1) (by decide +kernel))) (fun _ h9 => h9) rfl dX3_readPart_59 ?_
      refine lv_iload_n hx hb dX3_readPart_62 rfl (lv_at hl 1 rfl) ?_
      refine lv_bipush (v := 61) hx hb dX3_readPart_63 (by decide) ?_
      refine lv_icmp_ne (tgt := 72) hx hb dX3_readPart_65 (by decide) (fun _ => ?_) (fun c9 => absurd c9 (by decide +kernel))
      refine lv_iconst (v := 0) hx hb dX3_readPart_72 (by decide) ?_
      refine lv_iadd hx hb dX3_readPart_73 ?_
      refine va_put (D := D) (ci := 6) (v := .int (pl + 0)) (ty := .int) (own := RX3) (C := RX3) (T := TX3) (N := 5) hx hb hts hi_X3 tyX3 tyX3_ok nmX3 hown hK hP hD hS 1 rfl rfl 2 (by decide) (hts (.fieldLink RX3 19 "CanalMaps$CommandText" "place" "I") (List.mem_of_getElem? (i := 1) (by decide +kernel))) (fun _ h9 => h9) rfl (by decide +kernel) rfl rfl (Nat.le_of_ble_eq_true rfl) dX3_readPart_74 (fun H locs hP hD hS => ?_)
      have hP : va_P D vwCl [(h_sg, .inl (k_sg, 60, .inl sg)), (h_T, .inr (6, [.ref h_sg, .int ln, .int (pl + 0), h_T_3, h_T_4]))] H := hP
      have hD : va_D A [(h_sg, .inl (k_sg, 60, .inl sg)), (h_T, .inr (6, [.ref h_sg, .int ln, .int (pl + 0), h_T_3, h_T_4]))] := hD
      refine lv_iload_n hx hb dX3_readPart_77 rfl (lv_at hl 1 rfl) ?_
      refine lv_bipush (v := 61) hx hb dX3_readPart_78 (by decide) ?_
      refine lv_icmp_ne (tgt := 87) hx hb dX3_readPart_80 (by decide) (fun _ => ?_) (fun c9 => absurd c9 (by decide +kernel))
      refine lv_iconst (v := 0) hx hb dX3_readPart_87 (by decide) ?_
      refine W.widen (k := 0) (n := 0) (Nat.le_of_ble_eq_true rfl) (Nat.le_of_ble_eq_true rfl) ?_
      exact W.zret (v := 0) hx hb hr rfl (QG_.mk (fun _ => 0) (fun _ => 0) (fun _ => 0) [0, 1] [0] hP hD hK hS (by rw [hM]) (by rw [hM]; exact ⟨(show pl.toInt ≤ (pl + 0).toInt from (by have y0 := f_nlt c_1; have y1 := f_le c_2; have z0 := hy0; have z1 := hy1; have z2 := hy2; have z3 := hy3; have e_0 : (0 : Int32).toInt = 0 := (by decide +kernel); have b17 := Int32.toInt_lt (pl); have d17 := Int32.le_toInt (pl); have l18 : (0 : Int32).toInt = 0 := (by decide +kernel); have q16 := addI (a := pl) (b := 0) (by omega) (by omega); omega)), (show (pl + 0).toInt ≤ pl.toInt + 1 from (by have y0 := f_nlt c_1; have y1 := f_le c_2; have z0 := hy0; have z1 := hy1; have z2 := hy2; have z3 := hy3; have e_0 : (0 : Int32).toInt = 0 := (by decide +kernel); have b20 := Int32.toInt_lt (pl); have d20 := Int32.le_toInt (pl); have l21 : (0 : Int32).toInt = 0 := (by decide +kernel); have q19 := addI (a := pl) (b := 0) (by omega) (by omega); omega)), (show ((pl + 0).toInt ≤ 60 ∨ (pl + 0).toInt = pl.toInt) from (by have y0 := f_nlt c_1; have y1 := f_le c_2; have z0 := hy0; have z1 := hy1; have z2 := hy2; have z3 := hy3; have e_0 : (0 : Int32).toInt = 0 := (by decide +kernel); have b23 := Int32.toInt_lt (pl); have d23 := Int32.le_toInt (pl); have l24 : (0 : Int32).toInt = 0 := (by decide +kernel); have q22 := addI (a := pl) (b := 0) (by omega) (by omega); have b26 := Int32.toInt_lt (pl); have d26 := Int32.le_toInt (pl); have l27 : (0 : Int32).toInt = 0 := (by decide +kernel); have q25 := addI (a := pl) (b := 0) (by omega) (by omega); omega))⟩) (by first | (rw [hM]; rfl) | rfl) (by decide) rfl) hS.2.2 dX3_readPart_88
    · rw [if_neg c_2] at hM
      refine lv_aload_n hx hb dX3_readPart_18 rfl (lv_at hl 0 rfl) ?_
      refine va_get (D := D) (ci := 6) (v := .ref h_sg) (own := RX3) (C := RX3) (T := TX3) (N := 5) hx hb hts hi_X3 hown hK hP 1 rfl rfl 0 (by decide) (hts (.fieldLink RX3 9 "CanalMaps$CommandText" "signs" "[C") (List.mem_of_getElem? (i := 3) (by decide +kernel))) (fun _ h9 => h9) rfl dX3_readPart_19 ?_
      refine lv_aload_n hx hb dX3_readPart_22 rfl (lv_at hl 0 rfl) ?_
      refine va_get (D := D) (ci := 6) (v := .int pl) (own := RX3) (C := RX3) (T := TX3) (N := 5) hx hb hts hi_X3 hown hK hP 1 rfl rfl 2 (by decide) (hts (.fieldLink RX3 19 "CanalMaps$CommandText" "place" "I") (List.mem_of_getElem? (i := 1) (by decide +kernel))) (fun _ h9 => h9) rfl dX3_readPart_23 ?_
      refine va_cald hx hb hK hP 0 0 rfl rfl (vinI (by have y0 := f_nlt c_1; have y1 := f_nle c_2; have z0 := hy0; have z1 := hy1; have z2 := hy2; have z3 := hy3; have e_0 : (0 : Int32).toInt = 0 := (by decide +kernel); have b28 := Int32.toInt_lt (pl); have d28 := Int32.le_toInt (pl); omega) (by have y0 := f_nlt c_1; have y1 := f_nle c_2; have z0 := hy0; have z1 := hy1; have z2 := hy2; have z3 := hy3; have e_0 : (0 : Int32).toInt = 0 := (by decide +kernel); have b28 := Int32.toInt_lt (pl); have d28 := Int32.le_toInt (pl); omega)) dX3_readPart_26 ?_
      refine kt_ (v := (sg (ix pl))) rfl ?_
      refine lv_goto (tgt := 32) hx hb dX3_readPart_27 (by decide) ?_
      refine lv_istore_n (lv' := [(2, .int (sg (ix pl))), (0, .ref h_T), (1, .int 61)]) hx hb dX3_readPart_32 rfl hl (by decide) rfl (fun ls hl => ?_)
      refine lv_iload_n hx hb dX3_readPart_33 rfl (lv_at hl 0 rfl) ?_
      refine lv_bipush (v := 48) hx hb dX3_readPart_34 (by decide) ?_
      refine lv_icmp_lt (tgt := 49) hx hb dX3_readPart_36 (by decide) (fun c_3 => ?_) (fun c_3 => ?_)
      · rw [if_pos c_3] at hM
        refine lv_iconst (v := 0) hx hb dX3_readPart_49 (by decide) ?_
        refine lv_istore_n (lv' := [(3, .int 0), (2, .int (sg (ix pl))), (0, .ref h_T), (1, .int 61)]) hx hb dX3_readPart_50 rfl hl (by decide) rfl (fun ls hl => ?_)
        refine lv_iload_n hx hb dX3_readPart_51 rfl (lv_at hl 3 rfl) ?_
        refine lv_bipush (v := 61) hx hb dX3_readPart_52 (by decide) ?_
        refine lv_icmp_ne (tgt := 89) hx hb dX3_readPart_54 (by decide) (fun c9 => absurd (by decide +kernel) c9) (fun _ => ?_)
        refine lv_aload_n hx hb dX3_readPart_57 rfl (lv_at hl 2 rfl) ?_
        refine lv_dup hx hb dX3_readPart_58 rfl ?_
        refine va_get (D := D) (ci := 6) (v := .int pl) (own := RX3) (C := RX3) (T := TX3) (N := 5) hx hb hts hi_X3 hown hK hP 1 rfl rfl 2 (by decide) (hts (.fieldLink RX3 19 "CanalMaps$CommandText" "place" "I") (List.mem_of_getElem? (i := 1) (by decide +kernel))) (fun _ h9 => h9) rfl dX3_readPart_59 ?_
        refine lv_iload_n hx hb dX3_readPart_62 rfl (lv_at hl 1 rfl) ?_
        refine lv_bipush (v := 61) hx hb dX3_readPart_63 (by decide) ?_
        refine lv_icmp_ne (tgt := 72) hx hb dX3_readPart_65 (by decide) (fun c_4 => ?_) (fun c_4 => ?_)
        · rw [if_neg c_4] at hM
          refine lv_iconst (v := 0) hx hb dX3_readPart_72 (by decide) ?_
          refine lv_iadd hx hb dX3_readPart_73 ?_
          refine va_put (D := D) (ci := 6) (v := .int (pl + 0)) (ty := .int) (own := RX3) (C := RX3) (T := TX3) (N := 5) hx hb hts hi_X3 tyX3 tyX3_ok nmX3 hown hK hP hD hS 1 rfl rfl 2 (by decide) (hts (.fieldLink RX3 19 "CanalMaps$CommandText" "place" "I") (List.mem_of_getElem? (i := 1) (by decide +kernel))) (fun _ h9 => h9) rfl (by decide +kernel) rfl rfl (Nat.le_of_ble_eq_true rfl) dX3_readPart_74 (fun H locs hP hD hS => ?_)
          have hP : va_P D vwCl [(h_sg, .inl (k_sg, 60, .inl sg)), (h_T, .inr (6, [.ref h_sg, .int ln, .int (pl + 0), h_T_3, h_T_4]))] H := hP
          have hD : va_D A [(h_sg, .inl (k_sg, 60, .inl sg)), (h_T, .inr (6, [.ref h_sg, .int ln, .int (pl + 0), h_T_3, h_T_4]))] := hD
          refine lv_iload_n hx hb dX3_readPart_77 rfl (lv_at hl 1 rfl) ?_
          refine lv_bipush (v := 61) hx hb dX3_readPart_78 (by decide) ?_
          refine lv_icmp_ne (tgt := 87) hx hb dX3_readPart_80 (by decide) (fun _ => ?_) (fun c9 => absurd c9 c_4)
          refine lv_iconst (v := 0) hx hb dX3_readPart_87 (by decide) ?_
          refine W.widen (k := 0) (n := 0) (Nat.le_of_ble_eq_true rfl) (Nat.le_of_ble_eq_true rfl) ?_
          exact W.zret (v := 0) hx hb hr rfl (QG_.mk (fun _ => 0) (fun _ => 0) (fun _ => 0) [0, 1] [0] hP hD hK hS (by rw [hM]) (by rw [hM]; exact ⟨(show pl.toInt ≤ (pl + 0).toInt from (by have y0 := f_nlt c_1; have y1 := f_nle c_2; have y2 := f_lt c_3; have y3 := f_neq c_4; have z0 := hy0; have z1 := hy1; have z2 := hy2; have z3 := hy3; have e_0 : (0 : Int32).toInt = 0 := (by decide +kernel); have e_48 : (48 : Int32).toInt = 48 := (by decide +kernel); have e_61 : (61 : Int32).toInt = 61 := (by decide +kernel); have b30 := Int32.toInt_lt (pl); have d30 := Int32.le_toInt (pl); have l31 : (0 : Int32).toInt = 0 := (by decide +kernel); have q29 := addI (a := pl) (b := 0) (by omega) (by omega); have x0 := ix_toNat pl; omega)), (show (pl + 0).toInt ≤ pl.toInt + 1 from (by have y0 := f_nlt c_1; have y1 := f_nle c_2; have y2 := f_lt c_3; have y3 := f_neq c_4; have z0 := hy0; have z1 := hy1; have z2 := hy2; have z3 := hy3; have e_0 : (0 : Int32).toInt = 0 := (by decide +kernel); have e_48 : (48 : Int32).toInt = 48 := (by decide +kernel); have e_61 : (61 : Int32).toInt = 61 := (by decide +kernel); have b33 := Int32.toInt_lt (pl); have d33 := Int32.le_toInt (pl); have l34 : (0 : Int32).toInt = 0 := (by decide +kernel); have q32 := addI (a := pl) (b := 0) (by omega) (by omega); have x0 := ix_toNat pl; omega)), (show ((pl + 0).toInt ≤ 60 ∨ (pl + 0).toInt = pl.toInt) from (by have y0 := f_nlt c_1; have y1 := f_nle c_2; have y2 := f_lt c_3; have y3 := f_neq c_4; have z0 := hy0; have z1 := hy1; have z2 := hy2; have z3 := hy3; have e_0 : (0 : Int32).toInt = 0 := (by decide +kernel); have e_48 : (48 : Int32).toInt = 48 := (by decide +kernel); have e_61 : (61 : Int32).toInt = 61 := (by decide +kernel); have b36 := Int32.toInt_lt (pl); have d36 := Int32.le_toInt (pl); have l37 : (0 : Int32).toInt = 0 := (by decide +kernel); have q35 := addI (a := pl) (b := 0) (by omega) (by omega); have b39 := Int32.toInt_lt (pl); have d39 := Int32.le_toInt (pl); have l40 : (0 : Int32).toInt = 0 := (by decide +kernel); have q38 := addI (a := pl) (b := 0) (by omega) (by omega); have x0 := ix_toNat pl; omega))⟩) (by first | (rw [hM]; rfl) | rfl) (by decide) rfl) hS.2.2 dX3_readPart_88
        · rw [if_pos c_4] at hM
          refine lv_iconst (v := 1) hx hb dX3_readPart_68 (by decide) ?_
          refine lv_goto (tgt := 73) hx hb dX3_readPart_69 (by decide) ?_
          refine lv_iadd hx hb dX3_readPart_73 ?_
          refine va_put (D := D) (ci := 6) (v := .int (pl + 1)) (ty := .int) (own := RX3) (C := RX3) (T := TX3) (N := 5) hx hb hts hi_X3 tyX3 tyX3_ok nmX3 hown hK hP hD hS 1 rfl rfl 2 (by decide) (hts (.fieldLink RX3 19 "CanalMaps$CommandText" "place" "I") (List.mem_of_getElem? (i := 1) (by decide +kernel))) (fun _ h9 => h9) rfl (by decide +kernel) rfl rfl (Nat.le_of_ble_eq_true rfl) dX3_readPart_74 (fun H locs hP hD hS => ?_)
          have hP : va_P D vwCl [(h_sg, .inl (k_sg, 60, .inl sg)), (h_T, .inr (6, [.ref h_sg, .int ln, .int (pl + 1), h_T_3, h_T_4]))] H := hP
          have hD : va_D A [(h_sg, .inl (k_sg, 60, .inl sg)), (h_T, .inr (6, [.ref h_sg, .int ln, .int (pl + 1), h_T_3, h_T_4]))] := hD
          refine lv_iload_n hx hb dX3_readPart_77 rfl (lv_at hl 1 rfl) ?_
          refine lv_bipush (v := 61) hx hb dX3_readPart_78 (by decide) ?_
          refine lv_icmp_ne (tgt := 87) hx hb dX3_readPart_80 (by decide) (fun c9 => absurd c_4 c9) (fun _ => ?_)
          refine lv_iconst (v := 1) hx hb dX3_readPart_83 (by decide) ?_
          refine lv_goto (tgt := 88) hx hb dX3_readPart_84 (by decide) ?_
          refine W.widen (k := 0) (n := 0) (Nat.le_of_ble_eq_true rfl) (Nat.le_of_ble_eq_true rfl) ?_
          exact W.zret (v := 1) hx hb hr rfl (QG_.mk (fun _ => 0) (fun _ => 0) (fun _ => 0) [0, 1] [0] hP hD hK hS (by rw [hM]) (by rw [hM]; exact ⟨(show pl.toInt ≤ (pl + 1).toInt from (by have y0 := f_nlt c_1; have y1 := f_nle c_2; have y2 := f_lt c_3; have y3 := f_eq c_4; have z0 := hy0; have z1 := hy1; have z2 := hy2; have z3 := hy3; have e_0 : (0 : Int32).toInt = 0 := (by decide +kernel); have e_48 : (48 : Int32).toInt = 48 := (by decide +kernel); have e_61 : (61 : Int32).toInt = 61 := (by decide +kernel); have b42 := Int32.toInt_lt (pl); have d42 := Int32.le_toInt (pl); have l43 : (1 : Int32).toInt = 1 := (by decide +kernel); have q41 := addI (a := pl) (b := 1) (by omega) (by omega); have x0 := ix_toNat pl; omega)), (show (pl + 1).toInt ≤ pl.toInt + 1 from (by have y0 := f_nlt c_1; have y1 := f_nle c_2; have y2 := f_lt c_3; have y3 := f_eq c_4; have z0 := hy0; have z1 := hy1; have z2 := hy2; have z3 := hy3; have e_0 : (0 : Int32).toInt = 0 := (by decide +kernel); have e_48 : (48 : Int32).toInt = 48 := (by decide +kernel); have e_61 : (61 : Int32).toInt = 61 := (by decide +kernel); have b45 := Int32.toInt_lt (pl); have d45 := Int32.le_toInt (pl); have l46 : (1 : Int32).toInt = 1 := (by decide +kernel); have q44 := addI (a := pl) (b := 1) (by omega) (by omega); have x0 := ix_toNat pl; omega)), (show ((pl + 1).toInt ≤ 60 ∨ (pl + 1).toInt = pl.toInt) from (by have y0 := f_nlt c_1; have y1 := f_nle c_2; have y2 := f_lt c_3; have y3 := f_eq c_4; have z0 := hy0; have z1 := hy1; have z2 := hy2; have z3 := hy3; have e_0 : (0 : Int32).toInt = 0 := (by decide +kernel); have e_48 : (48 : Int32).toInt = 48 := (by decide +kernel); have e_61 : (61 : Int32).toInt = 61 := (by decide +kernel); have b48 := Int32.toInt_lt (pl); have d48 := Int32.le_toInt (pl); have l49 : (1 : Int32).toInt = 1 := (by decide +kernel); have q47 := addI (a := pl) (b := 1) (by omega) (by omega); have b51 := Int32.toInt_lt (pl); have d51 := Int32.le_toInt (pl); have l52 : (1 : Int32).toInt = 1 := (by decide +kernel); have q50 := addI (a := pl) (b := 1) (by omega) (by omega); have x0 := ix_toNat pl; omega))⟩) (by first | (rw [hM]; rfl) | rfl) (by decide) rfl) hS.2.2 dX3_readPart_88
      · rw [if_neg c_3] at hM
        refine lv_iload_n hx hb dX3_readPart_39 rfl (lv_at hl 0 rfl) ?_
        refine lv_bipush (v := 57) hx hb dX3_readPart_40 (by decide) ?_
        refine lv_icmp_gt (tgt := 49) hx hb dX3_readPart_42 (by decide) (fun c_5 => ?_) (fun c_5 => ?_)
        · rw [if_pos c_5] at hM
          refine lv_iconst (v := 0) hx hb dX3_readPart_49 (by decide) ?_
          refine lv_istore_n (lv' := [(3, .int 0), (2, .int (sg (ix pl))), (0, .ref h_T), (1, .int 61)]) hx hb dX3_readPart_50 rfl hl (by decide) rfl (fun ls hl => ?_)
          refine lv_iload_n hx hb dX3_readPart_51 rfl (lv_at hl 3 rfl) ?_
          refine lv_bipush (v := 61) hx hb dX3_readPart_52 (by decide) ?_
          refine lv_icmp_ne (tgt := 89) hx hb dX3_readPart_54 (by decide) (fun c9 => absurd (by decide +kernel) c9) (fun _ => ?_)
          refine lv_aload_n hx hb dX3_readPart_57 rfl (lv_at hl 2 rfl) ?_
          refine lv_dup hx hb dX3_readPart_58 rfl ?_
          refine va_get (D := D) (ci := 6) (v := .int pl) (own := RX3) (C := RX3) (T := TX3) (N := 5) hx hb hts hi_X3 hown hK hP 1 rfl rfl 2 (by decide) (hts (.fieldLink RX3 19 "CanalMaps$CommandText" "place" "I") (List.mem_of_getElem? (i := 1) (by decide +kernel))) (fun _ h9 => h9) rfl dX3_readPart_59 ?_
          refine lv_iload_n hx hb dX3_readPart_62 rfl (lv_at hl 1 rfl) ?_
          refine lv_bipush (v := 61) hx hb dX3_readPart_63 (by decide) ?_
          refine lv_icmp_ne (tgt := 72) hx hb dX3_readPart_65 (by decide) (fun c_6 => ?_) (fun c_6 => ?_)
          · rw [if_neg c_6] at hM
            refine lv_iconst (v := 0) hx hb dX3_readPart_72 (by decide) ?_
            refine lv_iadd hx hb dX3_readPart_73 ?_
            refine va_put (D := D) (ci := 6) (v := .int (pl + 0)) (ty := .int) (own := RX3) (C := RX3) (T := TX3) (N := 5) hx hb hts hi_X3 tyX3 tyX3_ok nmX3 hown hK hP hD hS 1 rfl rfl 2 (by decide) (hts (.fieldLink RX3 19 "CanalMaps$CommandText" "place" "I") (List.mem_of_getElem? (i := 1) (by decide +kernel))) (fun _ h9 => h9) rfl (by decide +kernel) rfl rfl (Nat.le_of_ble_eq_true rfl) dX3_readPart_74 (fun H locs hP hD hS => ?_)
            have hP : va_P D vwCl [(h_sg, .inl (k_sg, 60, .inl sg)), (h_T, .inr (6, [.ref h_sg, .int ln, .int (pl + 0), h_T_3, h_T_4]))] H := hP
            have hD : va_D A [(h_sg, .inl (k_sg, 60, .inl sg)), (h_T, .inr (6, [.ref h_sg, .int ln, .int (pl + 0), h_T_3, h_T_4]))] := hD
            refine lv_iload_n hx hb dX3_readPart_77 rfl (lv_at hl 1 rfl) ?_
            refine lv_bipush (v := 61) hx hb dX3_readPart_78 (by decide) ?_
            refine lv_icmp_ne (tgt := 87) hx hb dX3_readPart_80 (by decide) (fun _ => ?_) (fun c9 => absurd c9 c_6)
            refine lv_iconst (v := 0) hx hb dX3_readPart_87 (by decide) ?_
            refine W.widen (k := 0) (n := 0) (Nat.le_of_ble_eq_true rfl) (Nat.le_of_ble_eq_true rfl) ?_
            exact W.zret (v := 0) hx hb hr rfl (QG_.mk (fun _ => 0) (fun _ => 0) (fun _ => 0) [0, 1] [0] hP hD hK hS (by rw [hM]) (by rw [hM]; exact ⟨(show pl.toInt ≤ (pl + 0).toInt from (by have y0 := f_nlt c_1; have y1 := f_nle c_2; have y2 := f_nlt c_3; have y3 := f_lt c_5; have y4 := f_neq c_6; have z0 := hy0; have z1 := hy1; have z2 := hy2; have z3 := hy3; have e_0 : (0 : Int32).toInt = 0 := (by decide +kernel); have e_48 : (48 : Int32).toInt = 48 := (by decide +kernel); have e_57 : (57 : Int32).toInt = 57 := (by decide +kernel); have e_61 : (61 : Int32).toInt = 61 := (by decide +kernel); have b54 := Int32.toInt_lt (pl); have d54 := Int32.le_toInt (pl); have l55 : (0 : Int32).toInt = 0 := (by decide +kernel); have q53 := addI (a := pl) (b := 0) (by omega) (by omega); have x0 := ix_toNat pl; omega)), (show (pl + 0).toInt ≤ pl.toInt + 1 from (by have y0 := f_nlt c_1; have y1 := f_nle c_2; have y2 := f_nlt c_3; have y3 := f_lt c_5; have y4 := f_neq c_6; have z0 := hy0; have z1 := hy1; have z2 := hy2; have z3 := hy3; have e_0 : (0 : Int32).toInt = 0 := (by decide +kernel); have e_48 : (48 : Int32).toInt = 48 := (by decide +kernel); have e_57 : (57 : Int32).toInt = 57 := (by decide +kernel); have e_61 : (61 : Int32).toInt = 61 := (by decide +kernel); have b57 := Int32.toInt_lt (pl); have d57 := Int32.le_toInt (pl); have l58 : (0 : Int32).toInt = 0 := (by decide +kernel); have q56 := addI (a := pl) (b := 0) (by omega) (by omega); have x0 := ix_toNat pl; omega)), (show ((pl + 0).toInt ≤ 60 ∨ (pl + 0).toInt = pl.toInt) from (by have y0 := f_nlt c_1; have y1 := f_nle c_2; have y2 := f_nlt c_3; have y3 := f_lt c_5; have y4 := f_neq c_6; have z0 := hy0; have z1 := hy1; have z2 := hy2; have z3 := hy3; have e_0 : (0 : Int32).toInt = 0 := (by decide +kernel); have e_48 : (48 : Int32).toInt = 48 := (by decide +kernel); have e_57 : (57 : Int32).toInt = 57 := (by decide +kernel); have e_61 : (61 : Int32).toInt = 61 := (by decide +kernel); have b60 := Int32.toInt_lt (pl); have d60 := Int32.le_toInt (pl); have l61 : (0 : Int32).toInt = 0 := (by decide +kernel); have q59 := addI (a := pl) (b := 0) (by omega) (by omega); have b63 := Int32.toInt_lt (pl); have d63 := Int32.le_toInt (pl); have l64 : (0 : Int32).toInt = 0 := (by decide +kernel); have q62 := addI (a := pl) (b := 0) (by omega) (by omega); have x0 := ix_toNat pl; omega))⟩) (by first | (rw [hM]; rfl) | rfl) (by decide) rfl) hS.2.2 dX3_readPart_88
          · rw [if_pos c_6] at hM
            refine lv_iconst (v := 1) hx hb dX3_readPart_68 (by decide) ?_
            refine lv_goto (tgt := 73) hx hb dX3_readPart_69 (by decide) ?_
            refine lv_iadd hx hb dX3_readPart_73 ?_
            refine va_put (D := D) (ci := 6) (v := .int (pl + 1)) (ty := .int) (own := RX3) (C := RX3) (T := TX3) (N := 5) hx hb hts hi_X3 tyX3 tyX3_ok nmX3 hown hK hP hD hS 1 rfl rfl 2 (by decide) (hts (.fieldLink RX3 19 "CanalMaps$CommandText" "place" "I") (List.mem_of_getElem? (i := 1) (by decide +kernel))) (fun _ h9 => h9) rfl (by decide +kernel) rfl rfl (Nat.le_of_ble_eq_true rfl) dX3_readPart_74 (fun H locs hP hD hS => ?_)
            have hP : va_P D vwCl [(h_sg, .inl (k_sg, 60, .inl sg)), (h_T, .inr (6, [.ref h_sg, .int ln, .int (pl + 1), h_T_3, h_T_4]))] H := hP
            have hD : va_D A [(h_sg, .inl (k_sg, 60, .inl sg)), (h_T, .inr (6, [.ref h_sg, .int ln, .int (pl + 1), h_T_3, h_T_4]))] := hD
            refine lv_iload_n hx hb dX3_readPart_77 rfl (lv_at hl 1 rfl) ?_
            refine lv_bipush (v := 61) hx hb dX3_readPart_78 (by decide) ?_
            refine lv_icmp_ne (tgt := 87) hx hb dX3_readPart_80 (by decide) (fun c9 => absurd c_6 c9) (fun _ => ?_)
            refine lv_iconst (v := 1) hx hb dX3_readPart_83 (by decide) ?_
            refine lv_goto (tgt := 88) hx hb dX3_readPart_84 (by decide) ?_
            refine W.widen (k := 0) (n := 0) (Nat.le_of_ble_eq_true rfl) (Nat.le_of_ble_eq_true rfl) ?_
            exact W.zret (v := 1) hx hb hr rfl (QG_.mk (fun _ => 0) (fun _ => 0) (fun _ => 0) [0, 1] [0] hP hD hK hS (by rw [hM]) (by rw [hM]; exact ⟨(show pl.toInt ≤ (pl + 1).toInt from (by have y0 := f_nlt c_1; have y1 := f_nle c_2; have y2 := f_nlt c_3; have y3 := f_lt c_5; have y4 := f_eq c_6; have z0 := hy0; have z1 := hy1; have z2 := hy2; have z3 := hy3; have e_0 : (0 : Int32).toInt = 0 := (by decide +kernel); have e_48 : (48 : Int32).toInt = 48 := (by decide +kernel); have e_57 : (57 : Int32).toInt = 57 := (by decide +kernel); have e_61 : (61 : Int32).toInt = 61 := (by decide +kernel); have b66 := Int32.toInt_lt (pl); have d66 := Int32.le_toInt (pl); have l67 : (1 : Int32).toInt = 1 := (by decide +kernel); have q65 := addI (a := pl) (b := 1) (by omega) (by omega); have x0 := ix_toNat pl; omega)), (show (pl + 1).toInt ≤ pl.toInt + 1 from (by have y0 := f_nlt c_1; have y1 := f_nle c_2; have y2 := f_nlt c_3; have y3 := f_lt c_5; have y4 := f_eq c_6; have z0 := hy0; have z1 := hy1; have z2 := hy2; have z3 := hy3; have e_0 : (0 : Int32).toInt = 0 := (by decide +kernel); have e_48 : (48 : Int32).toInt = 48 := (by decide +kernel); have e_57 : (57 : Int32).toInt = 57 := (by decide +kernel); have e_61 : (61 : Int32).toInt = 61 := (by decide +kernel); have b69 := Int32.toInt_lt (pl); have d69 := Int32.le_toInt (pl); have l70 : (1 : Int32).toInt = 1 := (by decide +kernel); have q68 := addI (a := pl) (b := 1) (by omega) (by omega); have x0 := ix_toNat pl; omega)), (show ((pl + 1).toInt ≤ 60 ∨ (pl + 1).toInt = pl.toInt) from (by have y0 := f_nlt c_1; have y1 := f_nle c_2; have y2 := f_nlt c_3; have y3 := f_lt c_5; have y4 := f_eq c_6; have z0 := hy0; have z1 := hy1; have z2 := hy2; have z3 := hy3; have e_0 : (0 : Int32).toInt = 0 := (by decide +kernel); have e_48 : (48 : Int32).toInt = 48 := (by decide +kernel); have e_57 : (57 : Int32).toInt = 57 := (by decide +kernel); have e_61 : (61 : Int32).toInt = 61 := (by decide +kernel); have b72 := Int32.toInt_lt (pl); have d72 := Int32.le_toInt (pl); have l73 : (1 : Int32).toInt = 1 := (by decide +kernel); have q71 := addI (a := pl) (b := 1) (by omega) (by omega); have b75 := Int32.toInt_lt (pl); have d75 := Int32.le_toInt (pl); have l76 : (1 : Int32).toInt = 1 := (by decide +kernel); have q74 := addI (a := pl) (b := 1) (by omega) (by omega); have x0 := ix_toNat pl; omega))⟩) (by first | (rw [hM]; rfl) | rfl) (by decide) rfl) hS.2.2 dX3_readPart_88
        · rw [if_neg c_5] at hM
          refine lv_iconst (v := 1) hx hb dX3_readPart_45 (by decide) ?_
          refine lv_goto (tgt := 50) hx hb dX3_readPart_46 (by decide) ?_
          refine lv_istore_n (lv' := [(3, .int 1), (2, .int (sg (ix pl))), (0, .ref h_T), (1, .int 61)]) hx hb dX3_readPart_50 rfl hl (by decide) rfl (fun ls hl => ?_)
          refine lv_iload_n hx hb dX3_readPart_51 rfl (lv_at hl 3 rfl) ?_
          refine lv_bipush (v := 61) hx hb dX3_readPart_52 (by decide) ?_
          refine lv_icmp_ne (tgt := 89) hx hb dX3_readPart_54 (by decide) (fun c9 => absurd (by decide +kernel) c9) (fun _ => ?_)
          refine lv_aload_n hx hb dX3_readPart_57 rfl (lv_at hl 2 rfl) ?_
          refine lv_dup hx hb dX3_readPart_58 rfl ?_
          refine va_get (D := D) (ci := 6) (v := .int pl) (own := RX3) (C := RX3) (T := TX3) (N := 5) hx hb hts hi_X3 hown hK hP 1 rfl rfl 2 (by decide) (hts (.fieldLink RX3 19 "CanalMaps$CommandText" "place" "I") (List.mem_of_getElem? (i := 1) (by decide +kernel))) (fun _ h9 => h9) rfl dX3_readPart_59 ?_
          refine lv_iload_n hx hb dX3_readPart_62 rfl (lv_at hl 1 rfl) ?_
          refine lv_bipush (v := 61) hx hb dX3_readPart_63 (by decide) ?_
          refine lv_icmp_ne (tgt := 72) hx hb dX3_readPart_65 (by decide) (fun c_7 => ?_) (fun c_7 => ?_)
          · rw [if_neg c_7] at hM
            refine lv_iconst (v := 0) hx hb dX3_readPart_72 (by decide) ?_
            refine lv_iadd hx hb dX3_readPart_73 ?_
            refine va_put (D := D) (ci := 6) (v := .int (pl + 0)) (ty := .int) (own := RX3) (C := RX3) (T := TX3) (N := 5) hx hb hts hi_X3 tyX3 tyX3_ok nmX3 hown hK hP hD hS 1 rfl rfl 2 (by decide) (hts (.fieldLink RX3 19 "CanalMaps$CommandText" "place" "I") (List.mem_of_getElem? (i := 1) (by decide +kernel))) (fun _ h9 => h9) rfl (by decide +kernel) rfl rfl (Nat.le_of_ble_eq_true rfl) dX3_readPart_74 (fun H locs hP hD hS => ?_)
            have hP : va_P D vwCl [(h_sg, .inl (k_sg, 60, .inl sg)), (h_T, .inr (6, [.ref h_sg, .int ln, .int (pl + 0), h_T_3, h_T_4]))] H := hP
            have hD : va_D A [(h_sg, .inl (k_sg, 60, .inl sg)), (h_T, .inr (6, [.ref h_sg, .int ln, .int (pl + 0), h_T_3, h_T_4]))] := hD
            refine lv_iload_n hx hb dX3_readPart_77 rfl (lv_at hl 1 rfl) ?_
            refine lv_bipush (v := 61) hx hb dX3_readPart_78 (by decide) ?_
            refine lv_icmp_ne (tgt := 87) hx hb dX3_readPart_80 (by decide) (fun _ => ?_) (fun c9 => absurd c9 c_7)
            refine lv_iconst (v := 0) hx hb dX3_readPart_87 (by decide) ?_
            refine W.widen (k := 0) (n := 0) (Nat.le_of_ble_eq_true rfl) (Nat.le_of_ble_eq_true rfl) ?_
            exact W.zret (v := 0) hx hb hr rfl (QG_.mk (fun _ => 0) (fun _ => 0) (fun _ => 0) [0, 1] [0] hP hD hK hS (by rw [hM]) (by rw [hM]; exact ⟨(show pl.toInt ≤ (pl + 0).toInt from (by have y0 := f_nlt c_1; have y1 := f_nle c_2; have y2 := f_nlt c_3; have y3 := f_nlt c_5; have y4 := f_neq c_7; have z0 := hy0; have z1 := hy1; have z2 := hy2; have z3 := hy3; have e_0 : (0 : Int32).toInt = 0 := (by decide +kernel); have e_48 : (48 : Int32).toInt = 48 := (by decide +kernel); have e_57 : (57 : Int32).toInt = 57 := (by decide +kernel); have e_61 : (61 : Int32).toInt = 61 := (by decide +kernel); have b78 := Int32.toInt_lt (pl); have d78 := Int32.le_toInt (pl); have l79 : (0 : Int32).toInt = 0 := (by decide +kernel); have q77 := addI (a := pl) (b := 0) (by omega) (by omega); have x0 := ix_toNat pl; omega)), (show (pl + 0).toInt ≤ pl.toInt + 1 from (by have y0 := f_nlt c_1; have y1 := f_nle c_2; have y2 := f_nlt c_3; have y3 := f_nlt c_5; have y4 := f_neq c_7; have z0 := hy0; have z1 := hy1; have z2 := hy2; have z3 := hy3; have e_0 : (0 : Int32).toInt = 0 := (by decide +kernel); have e_48 : (48 : Int32).toInt = 48 := (by decide +kernel); have e_57 : (57 : Int32).toInt = 57 := (by decide +kernel); have e_61 : (61 : Int32).toInt = 61 := (by decide +kernel); have b81 := Int32.toInt_lt (pl); have d81 := Int32.le_toInt (pl); have l82 : (0 : Int32).toInt = 0 := (by decide +kernel); have q80 := addI (a := pl) (b := 0) (by omega) (by omega); have x0 := ix_toNat pl; omega)), (show ((pl + 0).toInt ≤ 60 ∨ (pl + 0).toInt = pl.toInt) from (by have y0 := f_nlt c_1; have y1 := f_nle c_2; have y2 := f_nlt c_3; have y3 := f_nlt c_5; have y4 := f_neq c_7; have z0 := hy0; have z1 := hy1; have z2 := hy2; have z3 := hy3; have e_0 : (0 : Int32).toInt = 0 := (by decide +kernel); have e_48 : (48 : Int32).toInt = 48 := (by decide +kernel); have e_57 : (57 : Int32).toInt = 57 := (by decide +kernel); have e_61 : (61 : Int32).toInt = 61 := (by decide +kernel); have b84 := Int32.toInt_lt (pl); have d84 := Int32.le_toInt (pl); have l85 : (0 : Int32).toInt = 0 := (by decide +kernel); have q83 := addI (a := pl) (b := 0) (by omega) (by omega); have b87 := Int32.toInt_lt (pl); have d87 := Int32.le_toInt (pl); have l88 : (0 : Int32).toInt = 0 := (by decide +kernel); have q86 := addI (a := pl) (b := 0) (by omega) (by omega); have x0 := ix_toNat pl; omega))⟩) (by first | (rw [hM]; rfl) | rfl) (by decide) rfl) hS.2.2 dX3_readPart_88
          · rw [if_pos c_7] at hM
            refine lv_iconst (v := 1) hx hb dX3_readPart_68 (by decide) ?_
            refine lv_goto (tgt := 73) hx hb dX3_readPart_69 (by decide) ?_
            refine lv_iadd hx hb dX3_readPart_73 ?_
            refine va_put (D := D) (ci := 6) (v := .int (pl + 1)) (ty := .int) (own := RX3) (C := RX3) (T := TX3) (N := 5) hx hb hts hi_X3 tyX3 tyX3_ok nmX3 hown hK hP hD hS 1 rfl rfl 2 (by decide) (hts (.fieldLink RX3 19 "CanalMaps$CommandText" "place" "I") (List.mem_of_getElem? (i := 1) (by decide +kernel))) (fun _ h9 => h9) rfl (by decide +kernel) rfl rfl (Nat.le_of_ble_eq_true rfl) dX3_readPart_74 (fun H locs hP hD hS => ?_)
            have hP : va_P D vwCl [(h_sg, .inl (k_sg, 60, .inl sg)), (h_T, .inr (6, [.ref h_sg, .int ln, .int (pl + 1), h_T_3, h_T_4]))] H := hP
            have hD : va_D A [(h_sg, .inl (k_sg, 60, .inl sg)), (h_T, .inr (6, [.ref h_sg, .int ln, .int (pl + 1), h_T_3, h_T_4]))] := hD
            refine lv_iload_n hx hb dX3_readPart_77 rfl (lv_at hl 1 rfl) ?_
            refine lv_bipush (v := 61) hx hb dX3_readPart_78 (by decide) ?_
            refine lv_icmp_ne (tgt := 87) hx hb dX3_readPart_80 (by decide) (fun c9 => absurd c_7 c9) (fun _ => ?_)
            refine lv_iconst (v := 1) hx hb dX3_readPart_83 (by decide) ?_
            refine lv_goto (tgt := 88) hx hb dX3_readPart_84 (by decide) ?_
            refine W.widen (k := 0) (n := 0) (Nat.le_of_ble_eq_true rfl) (Nat.le_of_ble_eq_true rfl) ?_
            exact W.zret (v := 1) hx hb hr rfl (QG_.mk (fun _ => 0) (fun _ => 0) (fun _ => 0) [0, 1] [0] hP hD hK hS (by rw [hM]) (by rw [hM]; exact ⟨(show pl.toInt ≤ (pl + 1).toInt from (by have y0 := f_nlt c_1; have y1 := f_nle c_2; have y2 := f_nlt c_3; have y3 := f_nlt c_5; have y4 := f_eq c_7; have z0 := hy0; have z1 := hy1; have z2 := hy2; have z3 := hy3; have e_0 : (0 : Int32).toInt = 0 := (by decide +kernel); have e_48 : (48 : Int32).toInt = 48 := (by decide +kernel); have e_57 : (57 : Int32).toInt = 57 := (by decide +kernel); have e_61 : (61 : Int32).toInt = 61 := (by decide +kernel); have b90 := Int32.toInt_lt (pl); have d90 := Int32.le_toInt (pl); have l91 : (1 : Int32).toInt = 1 := (by decide +kernel); have q89 := addI (a := pl) (b := 1) (by omega) (by omega); have x0 := ix_toNat pl; omega)), (show (pl + 1).toInt ≤ pl.toInt + 1 from (by have y0 := f_nlt c_1; have y1 := f_nle c_2; have y2 := f_nlt c_3; have y3 := f_nlt c_5; have y4 := f_eq c_7; have z0 := hy0; have z1 := hy1; have z2 := hy2; have z3 := hy3; have e_0 : (0 : Int32).toInt = 0 := (by decide +kernel); have e_48 : (48 : Int32).toInt = 48 := (by decide +kernel); have e_57 : (57 : Int32).toInt = 57 := (by decide +kernel); have e_61 : (61 : Int32).toInt = 61 := (by decide +kernel); have b93 := Int32.toInt_lt (pl); have d93 := Int32.le_toInt (pl); have l94 : (1 : Int32).toInt = 1 := (by decide +kernel); have q92 := addI (a := pl) (b := 1) (by omega) (by omega); have x0 := ix_toNat pl; omega)), (show ((pl + 1).toInt ≤ 60 ∨ (pl + 1).toInt = pl.toInt) from (by have y0 := f_nlt c_1; have y1 := f_nle c_2; have y2 := f_nlt c_3; have y3 := f_nlt c_5; have y4 := f_eq c_7; have z0 := hy0; have z1 := hy1; have z2 := hy2; have z3 := hy3; have e_0 : (0 : Int32).toInt = 0 := (by decide +kernel); have e_48 : (48 : Int32).toInt = 48 := (by decide +kernel); have e_57 : (57 : Int32).toInt = 57 := (by decide +kernel); have e_61 : (61 : Int32).toInt = 61 := (by decide +kernel); have b96 := Int32.toInt_lt (pl); have d96 := Int32.le_toInt (pl); have l97 : (1 : Int32).toInt = 1 := (by decide +kernel); have q95 := addI (a := pl) (b := 1) (by omega) (by omega); have b99 := Int32.toInt_lt (pl); have d99 := Int32.le_toInt (pl); have l100 : (1 : Int32).toInt = 1 := (by decide +kernel); have q98 := addI (a := pl) (b := 1) (by omega) (by omega); have x0 := ix_toNat pl; omega))⟩) (by first | (rw [hM]; rfl) | rfl) (by decide) rfl) hS.2.2 dX3_readPart_88
def F_J1_charAt_3b067_3_ad41  : Int32 := 50
set_option maxHeartbeats 4000000 in
set_option maxRecDepth 100000 in
theorem c_J1_charAt_3b067_3_ad41 (l : Launch) (hl0 : l.stackTraces = false) (D : va_G) (ad : Nat → Nat) (sz : Nat)  : Met l yJ1_charAt_3b067 wsJ1_charAt_3b067 ({ frames := 2, cells := 0, slots := 0, locals := 47 }) (PR_ D ad [] [] sz [.ref (ad 41), .int 3]) (QR_ (.int (F_J1_charAt_3b067_3_ad41)) (va_A [] sz)) 0 0 (va_A [] sz) := by
  refine Met.ofW (cc := cJ1_charAt_3b067) (maxL := 2) (ret := (some .char)) (by decide) rfl ?_
  intro p e s m args below meth c s₁ B hml hv
  obtain ⟨rfl, hsz, hP, hK, hF⟩ := hv
  have hx := B.exec
  have hb := B.bytes
  have hr := B.returns
  have hts := atoms_spec (ws := wsJ1_charAt_3b067) B.pre
  have hown : s.vm.findClass RJ1 = some m.cls := findClass_of_methodNamed B.named
  have hlocks := B.notSynchronized
  subst hsz
  generalize hAe : va_A [] s.heap.size = A at hF ⊢
  have hA : ∀ q : Nat, s.heap.size ≤ q → A q := fun q h => by rw [← hAe]; exact Or.inr h
  obtain ⟨H, hHe⟩ : ∃ H : Heap, H = s.heap := ⟨_, rfl⟩
  have hS : va_S A s.heap H [] := by rw [hHe]; exact va_S.rf
  have hP : va_P D vwCl [] H := by rw [hHe]; exact hP
  rw [← hHe]
  have hl := lv_entry [.ref (ad 41), .int 3] (n := 2) (Nat.le_of_ble_eq_true rfl)
  rw [lg_entry_eq]
  generalize (lg_sl [.ref (ad 41), .int 3] ++ List.replicate (2 - (lg_sl [.ref (ad 41), .int 3]).length) Slot.unset).toArray = ls at hl ⊢
  have hl : lv_has ls 2 [(0, .ref (ad 41)), (1, .int 3)] := hl
  have hM : F_J1_charAt_3b067_3_ad41 = 50 := rfl
  refine lv_iload_n hx hb dJ1_charAt_3b067_0 rfl (lv_at hl 1 rfl) ?_
  refine lv_aload_n hx hb dJ1_charAt_3b067_1 rfl (lv_at hl 0 rfl) ?_
  refine va_tlen (v := 4) hx hb ((fxst_ hF).1 1 (by decide)).2.2.2 hS rfl dJ1_charAt_3b067_2 ?_
  refine krv_ (va_runS (As := [.int 3, .int 4]) (rest := []) ⟨hx, hb, hml, hown, hts⟩ (c_J0_checkIndex_df160 l hl0 D ad H.size 3 4 (by decide +kernel) (by decide +kernel)) (va_cwS 2 hts gJ1_charAt_3b067_J0_checkIndex_df160 rfl rfl rfl (by decide +kernel) ⟨Nat.le_of_ble_eq_true rfl, Nat.le_of_ble_eq_true rfl⟩) ⟨PR_.blind, PR_.pre hF hK (hP.sub [] rfl) hS hA [] rfl⟩ rfl rfl hl.1 rfl (lv_room (Nat.le_of_ble_eq_true rfl)) dJ1_charAt_3b067_3 ⟨(Nat.le_of_ble_eq_true rfl), (Nat.le_of_ble_eq_true rfl)⟩) hP hS hA (fun H locs hP hS => ?_)
  refine W.eq (g2 := F0 m 6 ls []) rfl ?_
  refine lv_aload_n hx hb dJ1_charAt_3b067_6 rfl (lv_at hl 0 rfl) ?_
  refine lv_iload_n hx hb dJ1_charAt_3b067_7 rfl (lv_at hl 1 rfl) ?_
  refine va_tb (v := .int 50) hx hb ((fxst_ hF).1 1 (by decide)).2.2.2 hS (vin_ (by decide +kernel)) rfl dJ1_charAt_3b067_8 ?_
  refine lv_sipush (v := 255) hx hb dJ1_charAt_3b067_9 (by decide +kernel) ?_
  refine lv_iand hx hb dJ1_charAt_3b067_12 ?_
  refine kt_ (v := 50) (by decide +kernel) ?_
  refine lv_i2c (v := 50) hx hb dJ1_charAt_3b067_13 (by decide +kernel) ?_
  refine W.widen (k := 0) (n := 0) (Nat.le_of_ble_eq_true rfl) (Nat.le_of_ble_eq_true rfl) ?_
  exact W.zret (v := 50) hx hb hr rfl (QR_.mk hS (by rw [hM])) hS.2.2 dJ1_charAt_3b067_14
def F_J0_charAt_5068e_3_ad21  : Int32 := 50
set_option maxHeartbeats 4000000 in
set_option maxRecDepth 100000 in
theorem c_J0_charAt_5068e_3_ad21 (l : Launch) (hl0 : l.stackTraces = false) (D : va_G) (ad : Nat → Nat) (sz : Nat)  : Met l yJ0_charAt_5068e wsJ0_charAt_5068e ({ frames := 3, cells := 0, slots := 0, locals := 70 }) (PR_ D ad [] [] sz [.ref (ad 21), .int 3]) (QR_ (.int (F_J0_charAt_5068e_3_ad21)) (va_A [] sz)) 0 0 (va_A [] sz) := by
  refine Met.ofW (cc := cJ0_charAt_5068e) (maxL := 2) (ret := (some .char)) (by decide) rfl ?_
  intro p e s m args below meth c s₁ B hml hv
  obtain ⟨rfl, hsz, hP, hK, hF⟩ := hv
  have hx := B.exec
  have hb := B.bytes
  have hr := B.returns
  have hts := atoms_spec (ws := wsJ0_charAt_5068e) B.pre
  have hown : s.vm.findClass RJ0 = some m.cls := findClass_of_methodNamed B.named
  have hlocks := B.notSynchronized
  subst hsz
  generalize hAe : va_A [] s.heap.size = A at hF ⊢
  have hA : ∀ q : Nat, s.heap.size ≤ q → A q := fun q h => by rw [← hAe]; exact Or.inr h
  obtain ⟨H, hHe⟩ : ∃ H : Heap, H = s.heap := ⟨_, rfl⟩
  have hS : va_S A s.heap H [] := by rw [hHe]; exact va_S.rf
  have hP : va_P D vwCl [] H := by rw [hHe]; exact hP
  rw [← hHe]
  have hl := lv_entry [.ref (ad 21), .int 3] (n := 2) (Nat.le_of_ble_eq_true rfl)
  rw [lg_entry_eq]
  generalize (lg_sl [.ref (ad 21), .int 3] ++ List.replicate (2 - (lg_sl [.ref (ad 21), .int 3]).length) Slot.unset).toArray = ls at hl ⊢
  have hl : lv_has ls 2 [(0, .ref (ad 21)), (1, .int 3)] := hl
  have hM : F_J0_charAt_5068e_3_ad21 = 50 := rfl
  refine lv_aload_n hx hb dJ0_charAt_5068e_0 rfl (lv_at hl 0 rfl) ?_
  refine kr_ (va_runV (As := []) (rest := []) ⟨hx, hb, hml, hown, hts⟩ (c_J0_isLatin1_aae02_ad21 l hl0 D ad H.size) (cwV 0 hts gJ0_charAt_5068e_J0_isLatin1_aae02 rfl rfl rfl (by decide +kernel) ⟨Nat.le_of_ble_eq_true rfl, Nat.le_of_ble_eq_true rfl⟩) ⟨PR_.blind, vk_recv (fxst_ hF) (i := 1) (by decide) hS, PR_.pre hF hK (hP.sub [] rfl) hS hA [] rfl⟩ rfl rfl hl.1 rfl (lv_room (Nat.le_of_ble_eq_true rfl)) dJ0_charAt_5068e_1 ⟨(Nat.le_of_ble_eq_true rfl), (Nat.le_of_ble_eq_true rfl)⟩) hP hS hA (fun H locs hP hS => ?_)
  refine W.eq (g2 := F0 m 4 ls [.int 1]) rfl ?_
  refine lv_if_eq (tgt := 16) hx hb dJ0_charAt_5068e_4 (by decide) (fun c9 => absurd c9 (by decide +kernel)) (fun _ => ?_)
  refine lv_aload_n hx hb dJ0_charAt_5068e_7 rfl (lv_at hl 0 rfl) ?_
  refine vk_getf (o := "java/lang/String") (n := "value") (d := "[B") (q := ad 21) (v := .ref (ad 41)) hx hb ((fxst_ hF).1 1 (by decide)).2.2.1 hS hown (hts (.fieldLink RJ0 9 "java/lang/String" "value" "[B") (List.mem_of_getElem? (i := 1) (by decide +kernel))) (fun _ h9 => h9) dJ0_charAt_5068e_8 ?_
  refine lv_iload_n hx hb dJ0_charAt_5068e_11 rfl (lv_at hl 1 rfl) ?_
  refine kr_ (va_runS (As := [.ref (ad 41), .int 3]) (rest := []) ⟨hx, hb, hml, hown, hts⟩ (c_J1_charAt_3b067_3_ad41 l hl0 D ad H.size) (va_cwS 2 hts gJ0_charAt_5068e_J1_charAt_3b067 rfl rfl rfl (by decide +kernel) ⟨Nat.le_of_ble_eq_true rfl, Nat.le_of_ble_eq_true rfl⟩) ⟨PR_.blind, PR_.pre hF hK (hP.sub [] rfl) hS hA [] rfl⟩ rfl rfl hl.1 rfl (lv_room (Nat.le_of_ble_eq_true rfl)) dJ0_charAt_5068e_12 ⟨(Nat.le_of_ble_eq_true rfl), (Nat.le_of_ble_eq_true rfl)⟩) hP hS hA (fun H locs hP hS => ?_)
  refine W.eq (g2 := F0 m 15 ls [.int 50]) rfl ?_
  refine W.widen (k := 0) (n := 0) (Nat.le_of_ble_eq_true rfl) (Nat.le_of_ble_eq_true rfl) ?_
  exact W.zret (v := 50) hx hb hr rfl (QR_.mk hS (by rw [hM])) hS.2.2 dJ0_charAt_5068e_15
def F_X3_readPart_50 (sg : Nat → Int32) (ln : Int32) (pl : Int32) (nu : Nat → Int32) : Int32 × (Nat → Int32) × Int32 := (if pl < 0 then (0, nu, pl) else (if ln ≤ pl then (0, nu, pl) else (if (sg (ix pl)) < 48 then (0, nu, pl) else (if 57 < (sg (ix pl)) then (0, nu, pl) else (1, (upd nu 2 ((((nu 2) * 10) + (sg (ix pl))) - 48)), (pl + 1))))))
set_option maxHeartbeats 4000000 in
set_option maxRecDepth 100000 in
theorem c_X3_readPart_50 (l : Launch) (hl0 : l.stackTraces = false) (D : va_G) (ad : Nat → Nat) (sz : Nat) (h_sg : Nat) (h_nu : Nat) (h_T : Nat) (k_sg : ClassId) (k_nu : ClassId) (h_T_3 : Value) (sg : Nat → Int32) (nu : Nat → Int32) (ln : Int32) (pl : Int32) (hy0 : 0 ≤ ln.toInt) (hy1 : ln.toInt ≤ 60) (hy2 : 0 ≤ pl.toInt) (hy3 : pl.toInt ≤ 200) : Met l yX3_readPart wsX3_readPart ({ frames := 0, cells := 0, slots := 0, locals := 0 }) (PC_ D ad [(h_sg, .inl (k_sg, 60, .inl sg)), (h_nu, .inl (k_nu, 3, .inl nu)), (h_T, .inr (6, [.ref h_sg, .int ln, .int pl, h_T_3, .ref h_nu]))] [(k_sg, .char), (k_nu, .int)] sz [.ref h_T, .int 50]) (QG_ D (fun q i => some (.int (F_X3_readPart_50 sg ln pl nu).1)) (fun q i => pl.toInt ≤ ((F_X3_readPart_50 sg ln pl nu).2.2).toInt ∧ ((F_X3_readPart_50 sg ln pl nu).2.2).toInt ≤ pl.toInt + 1 ∧ (((F_X3_readPart_50 sg ln pl nu).2.2).toInt ≤ 60 ∨ ((F_X3_readPart_50 sg ln pl nu).2.2).toInt = pl.toInt)) (fun q k i => [(h_sg, .inl (k_sg, 60, .inl sg)), (h_nu, .inl (k_nu, 3, .inl (F_X3_readPart_50 sg ln pl nu).2.1)), (h_T, .inr (6, [.ref h_sg, .int ln, .int (F_X3_readPart_50 sg ln pl nu).2.2, h_T_3, .ref h_nu]))]) (fun q k i => [(k_sg, .char), (k_nu, .int)]) (va_A [(h_sg, .inl (k_sg, 60, .inl sg)), (h_nu, .inl (k_nu, 3, .inl nu)), (h_T, .inr (6, [.ref h_sg, .int ln, .int pl, h_T_3, .ref h_nu]))] sz)) 0 0 (va_A [(h_sg, .inl (k_sg, 60, .inl sg)), (h_nu, .inl (k_nu, 3, .inl nu)), (h_T, .inr (6, [.ref h_sg, .int ln, .int pl, h_T_3, .ref h_nu]))] sz) := by
  refine Met.ofW (cc := cX3_readPart) (maxL := 5) (ret := (some .boolean)) (by decide) rfl ?_
  intro p e s m args below meth c s₁ B hml hv
  obtain ⟨rfl, hsz, hP, hK, hD0, hF⟩ := hv
  have hx := B.exec
  have hb := B.bytes
  have hr := B.returns
  have hts := atoms_spec (ws := wsX3_readPart) B.pre
  have hown : s.vm.findClass RX3 = some m.cls := findClass_of_methodNamed B.named
  have hlocks := B.notSynchronized
  subst hsz
  have hD := hD0.self (sz := s.heap.size)
  generalize hAe : va_A [(h_sg, .inl (k_sg, 60, .inl sg)), (h_nu, .inl (k_nu, 3, .inl nu)), (h_T, .inr (6, [.ref h_sg, .int ln, .int pl, h_T_3, .ref h_nu]))] s.heap.size = A at hD hF ⊢
  have hA : ∀ q : Nat, s.heap.size ≤ q → A q := fun q h => by rw [← hAe]; exact Or.inr h
  obtain ⟨H, hHe⟩ : ∃ H : Heap, H = s.heap := ⟨_, rfl⟩
  have hS : va_S A s.heap H [] := by rw [hHe]; exact va_S.rf
  have hP : va_P D vwCl [(h_sg, .inl (k_sg, 60, .inl sg)), (h_nu, .inl (k_nu, 3, .inl nu)), (h_T, .inr (6, [.ref h_sg, .int ln, .int pl, h_T_3, .ref h_nu]))] H := by rw [hHe]; exact hP
  rw [← hHe]
  have hi_X3 : ∀ w ∈ wsX30, w ∈ wsX3_readPart := by decide +kernel
  have hl := lv_entry [.ref h_T, .int 50] (n := 5) (Nat.le_of_ble_eq_true rfl)
  rw [lg_entry_eq]
  generalize (lg_sl [.ref h_T, .int 50] ++ List.replicate (5 - (lg_sl [.ref h_T, .int 50]).length) Slot.unset).toArray = ls at hl ⊢
  have hl : lv_has ls 5 [(0, .ref h_T), (1, .int 50)] := hl
  have hM : F_X3_readPart_50 sg ln pl nu = (if pl < 0 then (0, nu, pl) else (if ln ≤ pl then (0, nu, pl) else (if (sg (ix pl)) < 48 then (0, nu, pl) else (if 57 < (sg (ix pl)) then (0, nu, pl) else (1, (upd nu 2 ((((nu 2) * 10) + (sg (ix pl))) - 48)), (pl + 1)))))) := rfl
  refine lv_aload_n hx hb dX3_readPart_0 rfl (lv_at hl 0 rfl) ?_
  refine va_get (D := D) (ci := 6) (v := .int pl) (own := RX3) (C := RX3) (T := TX3) (N := 5) hx hb hts hi_X3 hown hK hP 2 rfl rfl 2 (by decide) (hts (.fieldLink RX3 19 "CanalMaps$CommandText" "place" "I") (List.mem_of_getElem? (i := 1) (by decide +kernel))) (fun _ h9 => h9) rfl dX3_readPart_1 ?_
  refine lv_if_lt (tgt := 30) hx hb dX3_readPart_4 (by decide) (fun c_1 => ?_) (fun c_1 => ?_)
  · rw [if_pos c_1] at hM
    refine lv_bipush (v := 32) hx hb dX3_readPart_30 (by decide) ?_
    refine lv_istore_n (lv' := [(2, .int 32), (0, .ref h_T), (1, .int 50)]) hx hb dX3_readPart_32 rfl hl (by decide) rfl (fun ls hl => ?_)
    refine lv_iload_n hx hb dX3_readPart_33 rfl (lv_at hl 0 rfl) ?_
    refine lv_bipush (v := 48) hx hb dX3_readPart_34 (by decide) ?_
    refine lv_icmp_lt (tgt := 49) hx hb dX3_readPart_36 (by decide) (fun _ => ?_) (fun c9 => absurd (by decide +kernel) c9)
    refine lv_iconst (v := 0) hx hb dX3_readPart_49 (by decide) ?_
    refine lv_istore_n (lv' := [(3, .int 0), (2, .int 32), (0, .ref h_T), (1, .int 50)]) hx hb dX3_readPart_50 rfl hl (by decide) rfl (fun ls hl => ?_)
    refine lv_iload_n hx hb dX3_readPart_51 rfl (lv_at hl 3 rfl) ?_
    refine lv_bipush (v := 61) hx hb dX3_readPart_52 (by decide) ?_
    refine lv_icmp_ne (tgt := 89) hx hb dX3_readPart_54 (by decide) (fun _ => ?_) (fun c9 => absurd c9 (by decide +kernel))
    refine lv_iload_n hx hb dX3_readPart_89 rfl (lv_at hl 0 rfl) ?_
    refine lv_if_ne (tgt := 105) hx hb dX3_readPart_90 (by decide) (fun c9 => absurd (by decide +kernel) c9) (fun _ => ?_)
    refine lv_iload_n hx hb dX3_readPart_93 rfl (lv_at hl 3 rfl) ?_
    refine lv_bipush (v := 63) hx hb dX3_readPart_94 (by decide) ?_
    refine lv_icmp_ne (tgt := 103) hx hb dX3_readPart_96 (by decide) (fun _ => ?_) (fun c9 => absurd c9 (by decide +kernel))
    refine lv_iconst (v := 0) hx hb dX3_readPart_103 (by decide) ?_
    refine W.widen (k := 0) (n := 0) (Nat.le_of_ble_eq_true rfl) (Nat.le_of_ble_eq_true rfl) ?_
    exact W.zret (v := 0) hx hb hr rfl (QG_.mk (fun _ => 0) (fun _ => 0) (fun _ => 0) [0, 1, 2] [0, 1] hP hD hK hS (by rw [hM]) (by rw [hM]; exact ⟨(show pl.toInt ≤ pl.toInt from (by have y0 := f_lt c_1; have z0 := hy0; have z1 := hy1; have z2 := hy2; have z3 := hy3; have e_0 : (0 : Int32).toInt = 0 := (by decide +kernel); have b4 := Int32.toInt_lt (pl); have d4 := Int32.le_toInt (pl); omega)), (show pl.toInt ≤ pl.toInt + 1 from (by have y0 := f_lt c_1; have z0 := hy0; have z1 := hy1; have z2 := hy2; have z3 := hy3; have e_0 : (0 : Int32).toInt = 0 := (by decide +kernel); have b5 := Int32.toInt_lt (pl); have d5 := Int32.le_toInt (pl); omega)), (show (pl.toInt ≤ 60 ∨ pl.toInt = pl.toInt) from (by have y0 := f_lt c_1; have z0 := hy0; have z1 := hy1; have z2 := hy2; have z3 := hy3; have e_0 : (0 : Int32).toInt = 0 := (by decide +kernel); have b6 := Int32.toInt_lt (pl); have d6 := Int32.le_toInt (pl); have b7 := Int32.toInt_lt (pl); have d7 := Int32.le_toInt (pl); omega))⟩) (by first | (rw [hM]; rfl) | rfl) (by decide) rfl) hS.2.2 dX3_readPart_104
  · rw [if_neg c_1] at hM
    refine lv_aload_n hx hb dX3_readPart_7 rfl (lv_at hl 0 rfl) ?_
    refine va_get (D := D) (ci := 6) (v := .int pl) (own := RX3) (C := RX3) (T := TX3) (N := 5) hx hb hts hi_X3 hown hK hP 2 rfl rfl 2 (by decide) (hts (.fieldLink RX3 19 "CanalMaps$CommandText" "place" "I") (List.mem_of_getElem? (i := 1) (by decide +kernel))) (fun _ h9 => h9) rfl dX3_readPart_8 ?_
    refine lv_aload_n hx hb dX3_readPart_11 rfl (lv_at hl 0 rfl) ?_
    refine va_get (D := D) (ci := 6) (v := .int ln) (own := RX3) (C := RX3) (T := TX3) (N := 5) hx hb hts hi_X3 hown hK hP 2 rfl rfl 1 (by decide) (hts (.fieldLink RX3 15 "CanalMaps$CommandText" "length" "I") (List.mem_of_getElem? (i := 2) (by decide +kernel))) (fun _ h9 => h9) rfl dX3_readPart_12 ?_
    refine lv_icmp_ge (tgt := 30) hx hb dX3_readPart_15 (by decide) (fun c_2 => ?_) (fun c_2 => ?_)
    · rw [if_pos c_2] at hM
      refine lv_bipush (v := 32) hx hb dX3_readPart_30 (by decide) ?_
      refine lv_istore_n (lv' := [(2, .int 32), (0, .ref h_T), (1, .int 50)]) hx hb dX3_readPart_32 rfl hl (by decide) rfl (fun ls hl => ?_)
      refine lv_iload_n hx hb dX3_readPart_33 rfl (lv_at hl 0 rfl) ?_
      refine lv_bipush (v := 48) hx hb dX3_readPart_34 (by decide) ?_
      refine lv_icmp_lt (tgt := 49) hx hb dX3_readPart_36 (by decide) (fun _ => ?_) (fun c9 => absurd (by decide +kernel) c9)
      refine lv_iconst (v := 0) hx hb dX3_readPart_49 (by decide) ?_
      refine lv_istore_n (lv' := [(3, .int 0), (2, .int 32), (0, .ref h_T), (1, .int 50)]) hx hb dX3_readPart_50 rfl hl (by decide) rfl (fun ls hl => ?_)
      refine lv_iload_n hx hb dX3_readPart_51 rfl (lv_at hl 3 rfl) ?_
      refine lv_bipush (v := 61) hx hb dX3_readPart_52 (by decide) ?_
      refine lv_icmp_ne (tgt := 89) hx hb dX3_readPart_54 (by decide) (fun _ => ?_) (fun c9 => absurd c9 (by decide +kernel))
      refine lv_iload_n hx hb dX3_readPart_89 rfl (lv_at hl 0 rfl) ?_
      refine lv_if_ne (tgt := 105) hx hb dX3_readPart_90 (by decide) (fun c9 => absurd (by decide +kernel) c9) (fun _ => ?_)
      refine lv_iload_n hx hb dX3_readPart_93 rfl (lv_at hl 3 rfl) ?_
      refine lv_bipush (v := 63) hx hb dX3_readPart_94 (by decide) ?_
      refine lv_icmp_ne (tgt := 103) hx hb dX3_readPart_96 (by decide) (fun _ => ?_) (fun c9 => absurd c9 (by decide +kernel))
      refine lv_iconst (v := 0) hx hb dX3_readPart_103 (by decide) ?_
      refine W.widen (k := 0) (n := 0) (Nat.le_of_ble_eq_true rfl) (Nat.le_of_ble_eq_true rfl) ?_
      exact W.zret (v := 0) hx hb hr rfl (QG_.mk (fun _ => 0) (fun _ => 0) (fun _ => 0) [0, 1, 2] [0, 1] hP hD hK hS (by rw [hM]) (by rw [hM]; exact ⟨(show pl.toInt ≤ pl.toInt from (by have y0 := f_nlt c_1; have y1 := f_le c_2; have z0 := hy0; have z1 := hy1; have z2 := hy2; have z3 := hy3; have e_0 : (0 : Int32).toInt = 0 := (by decide +kernel); have b8 := Int32.toInt_lt (pl); have d8 := Int32.le_toInt (pl); omega)), (show pl.toInt ≤ pl.toInt + 1 from (by have y0 := f_nlt c_1; have y1 := f_le c_2; have z0 := hy0; have z1 := hy1; have z2 := hy2; have z3 := hy3; have e_0 : (0 : Int32).toInt = 0 := (by decide +kernel); have b9 := Int32.toInt_lt (pl); have d9 := Int32.le_toInt (pl); omega)), (show (pl.toInt ≤ 60 ∨ pl.toInt = pl.toInt) from (by have y0 := f_nlt c_1; have y1 := f_le c_2; have z0 := hy0; have z1 := hy1; have z2 := hy2; have z3 := hy3; have e_0 : (0 : Int32).toInt = 0 := (by decide +kernel); have b10 := Int32.toInt_lt (pl); have d10 := Int32.le_toInt (pl); have b11 := Int32.toInt_lt (pl); have d11 := Int32.le_toInt (pl); omega))⟩) (by first | (rw [hM]; rfl) | rfl) (by decide) rfl) hS.2.2 dX3_readPart_104
    · rw [if_neg c_2] at hM
      refine lv_aload_n hx hb dX3_readPart_18 rfl (lv_at hl 0 rfl) ?_
      refine va_get (D := D) (ci := 6) (v := .ref h_sg) (own := RX3) (C := RX3) (T := TX3) (N := 5) hx hb hts hi_X3 hown hK hP 2 rfl rfl 0 (by decide) (hts (.fieldLink RX3 9 "CanalMaps$CommandText" "signs" "[C") (List.mem_of_getElem? (i := 3) (by decide +kernel))) (fun _ h9 => h9) rfl dX3_readPart_19 ?_
      refine lv_aload_n hx hb dX3_readPart_22 rfl (lv_at hl 0 rfl) ?_
      refine va_get (D := D) (ci := 6) (v := .int pl) (own := RX3) (C := RX3) (T := TX3) (N := 5) hx hb hts hi_X3 hown hK hP 2 rfl rfl 2 (by decide) (hts (.fieldLink RX3 19 "CanalMaps$CommandText" "place" "I") (List.mem_of_getElem? (i := 1) (by decide +kernel))) (fun _ h9 => h9) rfl dX3_readPart_23 ?_
      refine va_cald hx hb hK hP 0 0 rfl rfl (vinI (by have y0 := f_nlt c_1; have y1 := f_nle c_2; have z0 := hy0; have z1 := hy1; have z2 := hy2; have z3 := hy3; have e_0 : (0 : Int32).toInt = 0 := (by decide +kernel); have b12 := Int32.toInt_lt (pl); have d12 := Int32.le_toInt (pl); omega) (by have y0 := f_nlt c_1; have y1 := f_nle c_2; have z0 := hy0; have z1 := hy1; have z2 := hy2; have z3 := hy3; have e_0 : (0 : Int32).toInt = 0 := (by decide +kernel); have b12 := Int32.toInt_lt (pl); have d12 := Int32.le_toInt (pl); omega)) dX3_readPart_26 ?_
      refine kt_ (v := (sg (ix pl))) rfl ?_
      refine lv_goto (tgt := 32) hx hb dX3_readPart_27 (by decide) ?_
      refine lv_istore_n (lv' := [(2, .int (sg (ix pl))), (0, .ref h_T), (1, .int 50)]) hx hb dX3_readPart_32 rfl hl (by decide) rfl (fun ls hl => ?_)
      refine lv_iload_n hx hb dX3_readPart_33 rfl (lv_at hl 0 rfl) ?_
      refine lv_bipush (v := 48) hx hb dX3_readPart_34 (by decide) ?_
      refine lv_icmp_lt (tgt := 49) hx hb dX3_readPart_36 (by decide) (fun c_3 => ?_) (fun c_3 => ?_)
      · rw [if_pos c_3] at hM
        refine lv_iconst (v := 0) hx hb dX3_readPart_49 (by decide) ?_
        refine lv_istore_n (lv' := [(3, .int 0), (2, .int (sg (ix pl))), (0, .ref h_T), (1, .int 50)]) hx hb dX3_readPart_50 rfl hl (by decide) rfl (fun ls hl => ?_)
        refine lv_iload_n hx hb dX3_readPart_51 rfl (lv_at hl 3 rfl) ?_
        refine lv_bipush (v := 61) hx hb dX3_readPart_52 (by decide) ?_
        refine lv_icmp_ne (tgt := 89) hx hb dX3_readPart_54 (by decide) (fun _ => ?_) (fun c9 => absurd c9 (by decide +kernel))
        refine lv_iload_n hx hb dX3_readPart_89 rfl (lv_at hl 0 rfl) ?_
        refine lv_if_ne (tgt := 105) hx hb dX3_readPart_90 (by decide) (fun c9 => absurd (by decide +kernel) c9) (fun _ => ?_)
        refine lv_iload_n hx hb dX3_readPart_93 rfl (lv_at hl 3 rfl) ?_
        refine lv_bipush (v := 63) hx hb dX3_readPart_94 (by decide) ?_
        refine lv_icmp_ne (tgt := 103) hx hb dX3_readPart_96 (by decide) (fun _ => ?_) (fun c9 => absurd c9 (by decide +kernel))
        refine lv_iconst (v := 0) hx hb dX3_readPart_103 (by decide) ?_
        refine W.widen (k := 0) (n := 0) (Nat.le_of_ble_eq_true rfl) (Nat.le_of_ble_eq_true rfl) ?_
        exact W.zret (v := 0) hx hb hr rfl (QG_.mk (fun _ => 0) (fun _ => 0) (fun _ => 0) [0, 1, 2] [0, 1] hP hD hK hS (by rw [hM]) (by rw [hM]; exact ⟨(show pl.toInt ≤ pl.toInt from (by have y0 := f_nlt c_1; have y1 := f_nle c_2; have y2 := f_lt c_3; have z0 := hy0; have z1 := hy1; have z2 := hy2; have z3 := hy3; have e_0 : (0 : Int32).toInt = 0 := (by decide +kernel); have e_48 : (48 : Int32).toInt = 48 := (by decide +kernel); have b13 := Int32.toInt_lt (pl); have d13 := Int32.le_toInt (pl); have x0 := ix_toNat pl; omega)), (show pl.toInt ≤ pl.toInt + 1 from (by have y0 := f_nlt c_1; have y1 := f_nle c_2; have y2 := f_lt c_3; have z0 := hy0; have z1 := hy1; have z2 := hy2; have z3 := hy3; have e_0 : (0 : Int32).toInt = 0 := (by decide +kernel); have e_48 : (48 : Int32).toInt = 48 := (by decide +kernel); have b14 := Int32.toInt_lt (pl); have d14 := Int32.le_toInt (pl); have x0 := ix_toNat pl; omega)), (show (pl.toInt ≤ 60 ∨ pl.toInt = pl.toInt) from (by have y0 := f_nlt c_1; have y1 := f_nle c_2; have y2 := f_lt c_3; have z0 := hy0; have z1 := hy1; have z2 := hy2; have z3 := hy3; have e_0 : (0 : Int32).toInt = 0 := (by decide +kernel); have e_48 : (48 : Int32).toInt = 48 := (by decide +kernel); have b15 := Int32.toInt_lt (pl); have d15 := Int32.le_toInt (pl); have b16 := Int32.toInt_lt (pl); have d16 := Int32.le_toInt (pl); have x0 := ix_toNat pl; omega))⟩) (by first | (rw [hM]; rfl) | rfl) (by decide) rfl) hS.2.2 dX3_readPart_104
      · rw [if_neg c_3] at hM
        refine lv_iload_n hx hb dX3_readPart_39 rfl (lv_at hl 0 rfl) ?_
        refine lv_bipush (v := 57) hx hb dX3_readPart_40 (by decide) ?_
        refine lv_icmp_gt (tgt := 49) hx hb dX3_readPart_42 (by decide) (fun c_4 => ?_) (fun c_4 => ?_)
        · rw [if_pos c_4] at hM
          refine lv_iconst (v := 0) hx hb dX3_readPart_49 (by decide) ?_
          refine lv_istore_n (lv' := [(3, .int 0), (2, .int (sg (ix pl))), (0, .ref h_T), (1, .int 50)]) hx hb dX3_readPart_50 rfl hl (by decide) rfl (fun ls hl => ?_)
          refine lv_iload_n hx hb dX3_readPart_51 rfl (lv_at hl 3 rfl) ?_
          refine lv_bipush (v := 61) hx hb dX3_readPart_52 (by decide) ?_
          refine lv_icmp_ne (tgt := 89) hx hb dX3_readPart_54 (by decide) (fun _ => ?_) (fun c9 => absurd c9 (by decide +kernel))
          refine lv_iload_n hx hb dX3_readPart_89 rfl (lv_at hl 0 rfl) ?_
          refine lv_if_ne (tgt := 105) hx hb dX3_readPart_90 (by decide) (fun c9 => absurd (by decide +kernel) c9) (fun _ => ?_)
          refine lv_iload_n hx hb dX3_readPart_93 rfl (lv_at hl 3 rfl) ?_
          refine lv_bipush (v := 63) hx hb dX3_readPart_94 (by decide) ?_
          refine lv_icmp_ne (tgt := 103) hx hb dX3_readPart_96 (by decide) (fun _ => ?_) (fun c9 => absurd c9 (by decide +kernel))
          refine lv_iconst (v := 0) hx hb dX3_readPart_103 (by decide) ?_
          refine W.widen (k := 0) (n := 0) (Nat.le_of_ble_eq_true rfl) (Nat.le_of_ble_eq_true rfl) ?_
          exact W.zret (v := 0) hx hb hr rfl (QG_.mk (fun _ => 0) (fun _ => 0) (fun _ => 0) [0, 1, 2] [0, 1] hP hD hK hS (by rw [hM]) (by rw [hM]; exact ⟨(show pl.toInt ≤ pl.toInt from (by have y0 := f_nlt c_1; have y1 := f_nle c_2; have y2 := f_nlt c_3; have y3 := f_lt c_4; have z0 := hy0; have z1 := hy1; have z2 := hy2; have z3 := hy3; have e_0 : (0 : Int32).toInt = 0 := (by decide +kernel); have e_48 : (48 : Int32).toInt = 48 := (by decide +kernel); have e_57 : (57 : Int32).toInt = 57 := (by decide +kernel); have b17 := Int32.toInt_lt (pl); have d17 := Int32.le_toInt (pl); have x0 := ix_toNat pl; omega)), (show pl.toInt ≤ pl.toInt + 1 from (by have y0 := f_nlt c_1; have y1 := f_nle c_2; have y2 := f_nlt c_3; have y3 := f_lt c_4; have z0 := hy0; have z1 := hy1; have z2 := hy2; have z3 := hy3; have e_0 : (0 : Int32).toInt = 0 := (by decide +kernel); have e_48 : (48 : Int32).toInt = 48 := (by decide +kernel); have e_57 : (57 : Int32).toInt = 57 := (by decide +kernel); have b18 := Int32.toInt_lt (pl); have d18 := Int32.le_toInt (pl); have x0 := ix_toNat pl; omega)), (show (pl.toInt ≤ 60 ∨ pl.toInt = pl.toInt) from (by have y0 := f_nlt c_1; have y1 := f_nle c_2; have y2 := f_nlt c_3; have y3 := f_lt c_4; have z0 := hy0; have z1 := hy1; have z2 := hy2; have z3 := hy3; have e_0 : (0 : Int32).toInt = 0 := (by decide +kernel); have e_48 : (48 : Int32).toInt = 48 := (by decide +kernel); have e_57 : (57 : Int32).toInt = 57 := (by decide +kernel); have b19 := Int32.toInt_lt (pl); have d19 := Int32.le_toInt (pl); have b20 := Int32.toInt_lt (pl); have d20 := Int32.le_toInt (pl); have x0 := ix_toNat pl; omega))⟩) (by first | (rw [hM]; rfl) | rfl) (by decide) rfl) hS.2.2 dX3_readPart_104
        · rw [if_neg c_4] at hM
          refine lv_iconst (v := 1) hx hb dX3_readPart_45 (by decide) ?_
          refine lv_goto (tgt := 50) hx hb dX3_readPart_46 (by decide) ?_
          refine lv_istore_n (lv' := [(3, .int 1), (2, .int (sg (ix pl))), (0, .ref h_T), (1, .int 50)]) hx hb dX3_readPart_50 rfl hl (by decide) rfl (fun ls hl => ?_)
          refine lv_iload_n hx hb dX3_readPart_51 rfl (lv_at hl 3 rfl) ?_
          refine lv_bipush (v := 61) hx hb dX3_readPart_52 (by decide) ?_
          refine lv_icmp_ne (tgt := 89) hx hb dX3_readPart_54 (by decide) (fun _ => ?_) (fun c9 => absurd c9 (by decide +kernel))
          refine lv_iload_n hx hb dX3_readPart_89 rfl (lv_at hl 0 rfl) ?_
          refine lv_if_ne (tgt := 105) hx hb dX3_readPart_90 (by decide) (fun _ => ?_) (fun c9 => absurd c9 (by decide +kernel))
          refine lv_iload_n hx hb dX3_readPart_105 rfl (lv_at hl 3 rfl) ?_
          refine lv_bipush (v := 63) hx hb dX3_readPart_106 (by decide) ?_
          refine lv_icmp_ne (tgt := 115) hx hb dX3_readPart_108 (by decide) (fun _ => ?_) (fun c9 => absurd c9 (by decide +kernel))
          refine lv_iload_n hx hb dX3_readPart_115 rfl (lv_at hl 3 rfl) ?_
          refine lv_bipush (v := 48) hx hb dX3_readPart_116 (by decide) ?_
          refine lv_isub hx hb dX3_readPart_118 ?_
          refine kt_ (v := 2) (by decide +kernel) ?_
          refine lv_istore (lv' := [(4, .int 2), (3, .int 1), (2, .int (sg (ix pl))), (0, .ref h_T), (1, .int 50)]) hx hb dX3_readPart_119 hl (by decide) rfl (fun ls hl => ?_)
          refine lv_iload hx hb dX3_readPart_121 (lv_at hl 0 rfl) ?_
          refine lv_if_lt (tgt := 154) hx hb dX3_readPart_123 (by decide) (fun c9 => absurd c9 (by decide +kernel)) (fun _ => ?_)
          refine lv_iload hx hb dX3_readPart_126 (lv_at hl 0 rfl) ?_
          refine lv_iconst (v := 3) hx hb dX3_readPart_128 (by decide) ?_
          refine lv_icmp_ge (tgt := 154) hx hb dX3_readPart_129 (by decide) (fun c9 => absurd c9 (by decide +kernel)) (fun _ => ?_)
          refine lv_aload_n hx hb dX3_readPart_132 rfl (lv_at hl 3 rfl) ?_
          refine va_get (D := D) (ci := 6) (v := .ref h_nu) (own := RX3) (C := RX3) (T := TX3) (N := 5) hx hb hts hi_X3 hown hK hP 2 rfl rfl 4 (by decide) (hts (.fieldLink RX3 31 "CanalMaps$CommandText" "numbers" "[I") (List.mem_of_getElem? (i := 4) (by decide +kernel))) (fun _ h9 => h9) rfl dX3_readPart_133 ?_
          refine lv_iload hx hb dX3_readPart_136 (lv_at hl 0 rfl) ?_
          refine lv_aload_n hx hb dX3_readPart_138 rfl (lv_at hl 3 rfl) ?_
          refine va_get (D := D) (ci := 6) (v := .ref h_nu) (own := RX3) (C := RX3) (T := TX3) (N := 5) hx hb hts hi_X3 hown hK hP 2 rfl rfl 4 (by decide) (hts (.fieldLink RX3 31 "CanalMaps$CommandText" "numbers" "[I") (List.mem_of_getElem? (i := 4) (by decide +kernel))) (fun _ h9 => h9) rfl dX3_readPart_139 ?_
          refine lv_iload hx hb dX3_readPart_142 (lv_at hl 0 rfl) ?_
          refine va_iald hx hb hK hP 1 1 rfl rfl (vin_ (by decide +kernel)) dX3_readPart_144 ?_
          refine kt_ (v := (nu 2)) (congrArg nu (by decide +kernel)) ?_
          refine lv_bipush (v := 10) hx hb dX3_readPart_145 (by decide) ?_
          refine lv_imul hx hb dX3_readPart_147 ?_
          refine lv_iload_n hx hb dX3_readPart_148 rfl (lv_at hl 2 rfl) ?_
          refine lv_iadd hx hb dX3_readPart_149 ?_
          refine lv_bipush (v := 48) hx hb dX3_readPart_150 (by decide) ?_
          refine lv_isub hx hb dX3_readPart_152 ?_
          refine ka_iast (g := (upd nu 2 ((((nu 2) * 10) + (sg (ix pl))) - 48))) hx hb hK hP hD hS 1 1 rfl rfl (vin_ (by decide +kernel)) (congrArg (fun z9 => upd _ z9 _) (by decide +kernel)) dX3_readPart_153 (fun H locs hP hD hS => ?_)
          have hP : va_P D vwCl [(h_sg, .inl (k_sg, 60, .inl sg)), (h_nu, .inl (k_nu, 3, .inl (upd nu 2 ((((nu 2) * 10) + (sg (ix pl))) - 48)))), (h_T, .inr (6, [.ref h_sg, .int ln, .int pl, h_T_3, .ref h_nu]))] H := hP
          have hD : va_D A [(h_sg, .inl (k_sg, 60, .inl sg)), (h_nu, .inl (k_nu, 3, .inl (upd nu 2 ((((nu 2) * 10) + (sg (ix pl))) - 48)))), (h_T, .inr (6, [.ref h_sg, .int ln, .int pl, h_T_3, .ref h_nu]))] := hD
          refine lv_aload_n hx hb dX3_readPart_154 rfl (lv_at hl 3 rfl) ?_
          refine lv_dup hx hb dX3_readPart_155 rfl ?_
          refine va_get (D := D) (ci := 6) (v := .int pl) (own := RX3) (C := RX3) (T := TX3) (N := 5) hx hb hts hi_X3 hown hK hP 2 rfl rfl 2 (by decide) (hts (.fieldLink RX3 19 "CanalMaps$CommandText" "place" "I") (List.mem_of_getElem? (i := 1) (by decide +kernel))) (fun _ h9 => h9) rfl dX3_readPart_156 ?_
          refine lv_iconst (v := 1) hx hb dX3_readPart_159 (by decide) ?_
          refine lv_iadd hx hb dX3_readPart_160 ?_
          refine va_put (D := D) (ci := 6) (v := .int (pl + 1)) (ty := .int) (own := RX3) (C := RX3) (T := TX3) (N := 5) hx hb hts hi_X3 tyX3 tyX3_ok nmX3 hown hK hP hD hS 2 rfl rfl 2 (by decide) (hts (.fieldLink RX3 19 "CanalMaps$CommandText" "place" "I") (List.mem_of_getElem? (i := 1) (by decide +kernel))) (fun _ h9 => h9) rfl (by decide +kernel) rfl rfl (Nat.le_of_ble_eq_true rfl) dX3_readPart_161 (fun H locs hP hD hS => ?_)
          have hP : va_P D vwCl [(h_sg, .inl (k_sg, 60, .inl sg)), (h_nu, .inl (k_nu, 3, .inl (upd nu 2 ((((nu 2) * 10) + (sg (ix pl))) - 48)))), (h_T, .inr (6, [.ref h_sg, .int ln, .int (pl + 1), h_T_3, .ref h_nu]))] H := hP
          have hD : va_D A [(h_sg, .inl (k_sg, 60, .inl sg)), (h_nu, .inl (k_nu, 3, .inl (upd nu 2 ((((nu 2) * 10) + (sg (ix pl))) - 48)))), (h_T, .inr (6, [.ref h_sg, .int ln, .int (pl + 1), h_T_3, .ref h_nu]))] := hD
          refine lv_iconst (v := 1) hx hb dX3_readPart_164 (by decide) ?_
          refine W.widen (k := 0) (n := 0) (Nat.le_of_ble_eq_true rfl) (Nat.le_of_ble_eq_true rfl) ?_
          exact W.zret (v := 1) hx hb hr rfl (QG_.mk (fun _ => 0) (fun _ => 0) (fun _ => 0) [0, 1, 2] [0, 1] hP hD hK hS (by rw [hM]) (by rw [hM]; exact ⟨(show pl.toInt ≤ (pl + 1).toInt from (by have y0 := f_nlt c_1; have y1 := f_nle c_2; have y2 := f_nlt c_3; have y3 := f_nlt c_4; have z0 := hy0; have z1 := hy1; have z2 := hy2; have z3 := hy3; have e_0 : (0 : Int32).toInt = 0 := (by decide +kernel); have e_48 : (48 : Int32).toInt = 48 := (by decide +kernel); have e_57 : (57 : Int32).toInt = 57 := (by decide +kernel); have b22 := Int32.toInt_lt (pl); have d22 := Int32.le_toInt (pl); have l23 : (1 : Int32).toInt = 1 := (by decide +kernel); have q21 := addI (a := pl) (b := 1) (by omega) (by omega); have x0 := ix_toNat pl; omega)), (show (pl + 1).toInt ≤ pl.toInt + 1 from (by have y0 := f_nlt c_1; have y1 := f_nle c_2; have y2 := f_nlt c_3; have y3 := f_nlt c_4; have z0 := hy0; have z1 := hy1; have z2 := hy2; have z3 := hy3; have e_0 : (0 : Int32).toInt = 0 := (by decide +kernel); have e_48 : (48 : Int32).toInt = 48 := (by decide +kernel); have e_57 : (57 : Int32).toInt = 57 := (by decide +kernel); have b25 := Int32.toInt_lt (pl); have d25 := Int32.le_toInt (pl); have l26 : (1 : Int32).toInt = 1 := (by decide +kernel); have q24 := addI (a := pl) (b := 1) (by omega) (by omega); have x0 := ix_toNat pl; omega)), (show ((pl + 1).toInt ≤ 60 ∨ (pl + 1).toInt = pl.toInt) from (by have y0 := f_nlt c_1; have y1 := f_nle c_2; have y2 := f_nlt c_3; have y3 := f_nlt c_4; have z0 := hy0; have z1 := hy1; have z2 := hy2; have z3 := hy3; have e_0 : (0 : Int32).toInt = 0 := (by decide +kernel); have e_48 : (48 : Int32).toInt = 48 := (by decide +kernel); have e_57 : (57 : Int32).toInt = 57 := (by decide +kernel); have b28 := Int32.toInt_lt (pl); have d28 := Int32.le_toInt (pl); have l29 : (1 : Int32).toInt = 1 := (by decide +kernel); have q27 := addI (a := pl) (b := 1) (by omega) (by omega); have b31 := Int32.toInt_lt (pl); have d31 := Int32.le_toInt (pl); have l32 : (1 : Int32).toInt = 1 := (by decide +kernel); have q30 := addI (a := pl) (b := 1) (by omega) (by omega); have x0 := ix_toNat pl; omega))⟩) (by first | (rw [hM]; rfl) | rfl) (by decide) rfl) hS.2.2 dX3_readPart_165
def F_J0_coder_7d493_ad22  : Int32 := 0
set_option maxHeartbeats 4000000 in
set_option maxRecDepth 100000 in
theorem c_J0_coder_7d493_ad22 (l : Launch) (hl0 : l.stackTraces = false) (D : va_G) (ad : Nat → Nat) (sz : Nat)  : Met l yJ0_coder_7d493 wsJ0_coder_7d493 ({ frames := 0, cells := 0, slots := 0, locals := 0 }) (PR_ D ad [] [] sz [.ref (ad 22)]) (QR_ (.int (F_J0_coder_7d493_ad22)) (va_A [] sz)) 0 0 (va_A [] sz) := by
  refine Met.ofW (cc := cJ0_coder_7d493) (maxL := 1) (ret := (some .byte)) (by decide) rfl ?_
  intro p e s m args below meth c s₁ B hml hv
  obtain ⟨rfl, hsz, hP, hK, hF⟩ := hv
  have hx := B.exec
  have hb := B.bytes
  have hr := B.returns
  have hts := atoms_spec (ws := wsJ0_coder_7d493) B.pre
  have hown : s.vm.findClass RJ0 = some m.cls := findClass_of_methodNamed B.named
  have hlocks := B.notSynchronized
  subst hsz
  generalize hAe : va_A [] s.heap.size = A at hF ⊢
  have hA : ∀ q : Nat, s.heap.size ≤ q → A q := fun q h => by rw [← hAe]; exact Or.inr h
  obtain ⟨H, hHe⟩ : ∃ H : Heap, H = s.heap := ⟨_, rfl⟩
  have hS : va_S A s.heap H [] := by rw [hHe]; exact va_S.rf
  have hP : va_P D vwCl [] H := by rw [hHe]; exact hP
  rw [← hHe]
  have hl := lv_entry [.ref (ad 22)] (n := 1) (Nat.le_of_ble_eq_true rfl)
  rw [lg_entry_eq]
  generalize (lg_sl [.ref (ad 22)] ++ List.replicate (1 - (lg_sl [.ref (ad 22)]).length) Slot.unset).toArray = ls at hl ⊢
  have hl : lv_has ls 1 [(0, .ref (ad 22))] := hl
  have hM : F_J0_coder_7d493_ad22 = 0 := rfl
  refine va_gets (C := "java/lang/String") (n := "COMPACT_STRINGS") (d := "Z") (own := RJ0) (ref := "java/lang/String") (v := .int 1) hx hb hF.2.2.2.1 hS hown (hts (.fieldLink RJ0 38 "java/lang/String" "COMPACT_STRINGS" "Z") (List.mem_of_getElem? (i := 1) (by decide +kernel))) (fun _ h9 => h9) dJ0_coder_7d493_0 ?_
  refine lv_if_eq (tgt := 13) hx hb dJ0_coder_7d493_3 (by decide) (fun c9 => absurd c9 (by decide +kernel)) (fun _ => ?_)
  refine lv_aload_n hx hb dJ0_coder_7d493_6 rfl (lv_at hl 0 rfl) ?_
  refine vk_getf (o := "java/lang/String") (n := "coder") (d := "B") (q := ad 22) (v := .int 0) hx hb ((fxst_ hF).1 2 (by decide)).2.1 hS hown (hts (.fieldLink RJ0 15 "java/lang/String" "coder" "B") (List.mem_of_getElem? (i := 2) (by decide +kernel))) (fun _ h9 => h9) dJ0_coder_7d493_7 ?_
  refine lv_goto (tgt := 14) hx hb dJ0_coder_7d493_10 (by decide) ?_
  refine W.widen (k := 0) (n := 0) (Nat.le_of_ble_eq_true rfl) (Nat.le_of_ble_eq_true rfl) ?_
  exact W.zret (v := 0) hx hb hr rfl (QR_.mk hS (by rw [hM])) hS.2.2 dJ0_coder_7d493_14
def F_J0_length_8abf5_ad22  : Int32 := 2
set_option maxHeartbeats 4000000 in
set_option maxRecDepth 100000 in
theorem c_J0_length_8abf5_ad22 (l : Launch) (hl0 : l.stackTraces = false) (D : va_G) (ad : Nat → Nat) (sz : Nat)  : Met l yJ0_length_8abf5 wsJ0_length_8abf5 ({ frames := 1, cells := 0, slots := 0, locals := 22 }) (PR_ D ad [] [] sz [.ref (ad 22)]) (QR_ (.int (F_J0_length_8abf5_ad22)) (va_A [] sz)) 0 0 (va_A [] sz) := by
  refine Met.ofW (cc := cJ0_length_8abf5) (maxL := 1) (ret := (some .int)) (by decide) rfl ?_
  intro p e s m args below meth c s₁ B hml hv
  obtain ⟨rfl, hsz, hP, hK, hF⟩ := hv
  have hx := B.exec
  have hb := B.bytes
  have hr := B.returns
  have hts := atoms_spec (ws := wsJ0_length_8abf5) B.pre
  have hown : s.vm.findClass RJ0 = some m.cls := findClass_of_methodNamed B.named
  have hlocks := B.notSynchronized
  subst hsz
  generalize hAe : va_A [] s.heap.size = A at hF ⊢
  have hA : ∀ q : Nat, s.heap.size ≤ q → A q := fun q h => by rw [← hAe]; exact Or.inr h
  obtain ⟨H, hHe⟩ : ∃ H : Heap, H = s.heap := ⟨_, rfl⟩
  have hS : va_S A s.heap H [] := by rw [hHe]; exact va_S.rf
  have hP : va_P D vwCl [] H := by rw [hHe]; exact hP
  rw [← hHe]
  have hl := lv_entry [.ref (ad 22)] (n := 1) (Nat.le_of_ble_eq_true rfl)
  rw [lg_entry_eq]
  generalize (lg_sl [.ref (ad 22)] ++ List.replicate (1 - (lg_sl [.ref (ad 22)]).length) Slot.unset).toArray = ls at hl ⊢
  have hl : lv_has ls 1 [(0, .ref (ad 22))] := hl
  have hM : F_J0_length_8abf5_ad22 = 2 := rfl
  refine lv_aload_n hx hb dJ0_length_8abf5_0 rfl (lv_at hl 0 rfl) ?_
  refine vk_getf (o := "java/lang/String") (n := "value") (d := "[B") (q := ad 22) (v := .ref (ad 42)) hx hb ((fxst_ hF).1 2 (by decide)).2.2.1 hS hown (hts (.fieldLink RJ0 9 "java/lang/String" "value" "[B") (List.mem_of_getElem? (i := 1) (by decide +kernel))) (fun _ h9 => h9) dJ0_length_8abf5_1 ?_
  refine va_tlen (v := 2) hx hb ((fxst_ hF).1 2 (by decide)).2.2.2 hS rfl dJ0_length_8abf5_4 ?_
  refine lv_aload_n hx hb dJ0_length_8abf5_5 rfl (lv_at hl 0 rfl) ?_
  refine kr_ (va_runV (As := []) (rest := [.int 2]) ⟨hx, hb, hml, hown, hts⟩ (c_J0_coder_7d493_ad22 l hl0 D ad H.size) (cwV 0 hts gJ0_length_8abf5_J0_coder_7d493 rfl rfl rfl (by decide +kernel) ⟨Nat.le_of_ble_eq_true rfl, Nat.le_of_ble_eq_true rfl⟩) ⟨PR_.blind, vk_recv (fxst_ hF) (i := 2) (by decide) hS, PR_.pre hF hK (hP.sub [] rfl) hS hA [] rfl⟩ rfl rfl hl.1 rfl (lv_room (Nat.le_of_ble_eq_true rfl)) dJ0_length_8abf5_6 ⟨(Nat.le_of_ble_eq_true rfl), (Nat.le_of_ble_eq_true rfl)⟩) hP hS hA (fun H locs hP hS => ?_)
  refine W.eq (g2 := F0 m 9 ls [.int 0, .int 2]) rfl ?_
  refine lv_ishr hx hb dJ0_length_8abf5_9 ?_
  refine kt_ (v := 2) (by decide +kernel) ?_
  refine W.widen (k := 0) (n := 0) (Nat.le_of_ble_eq_true rfl) (Nat.le_of_ble_eq_true rfl) ?_
  exact W.iret (v := 2) hx hb hr (QR_.mk hS (by rw [hM])) hS.2.2 dJ0_length_8abf5_10
def F_J0_isLatin1_aae02_ad22  : Int32 := 1
set_option maxHeartbeats 4000000 in
set_option maxRecDepth 100000 in
theorem c_J0_isLatin1_aae02_ad22 (l : Launch) (hl0 : l.stackTraces = false) (D : va_G) (ad : Nat → Nat) (sz : Nat)  : Met l yJ0_isLatin1_aae02 wsJ0_isLatin1_aae02 ({ frames := 0, cells := 0, slots := 0, locals := 0 }) (PR_ D ad [] [] sz [.ref (ad 22)]) (QR_ (.int (F_J0_isLatin1_aae02_ad22)) (va_A [] sz)) 0 0 (va_A [] sz) := by
  refine Met.ofW (cc := cJ0_isLatin1_aae02) (maxL := 1) (ret := (some .boolean)) (by decide) rfl ?_
  intro p e s m args below meth c s₁ B hml hv
  obtain ⟨rfl, hsz, hP, hK, hF⟩ := hv
  have hx := B.exec
  have hb := B.bytes
  have hr := B.returns
  have hts := atoms_spec (ws := wsJ0_isLatin1_aae02) B.pre
  have hown : s.vm.findClass RJ0 = some m.cls := findClass_of_methodNamed B.named
  have hlocks := B.notSynchronized
  subst hsz
  generalize hAe : va_A [] s.heap.size = A at hF ⊢
  have hA : ∀ q : Nat, s.heap.size ≤ q → A q := fun q h => by rw [← hAe]; exact Or.inr h
  obtain ⟨H, hHe⟩ : ∃ H : Heap, H = s.heap := ⟨_, rfl⟩
  have hS : va_S A s.heap H [] := by rw [hHe]; exact va_S.rf
  have hP : va_P D vwCl [] H := by rw [hHe]; exact hP
  rw [← hHe]
  have hl := lv_entry [.ref (ad 22)] (n := 1) (Nat.le_of_ble_eq_true rfl)
  rw [lg_entry_eq]
  generalize (lg_sl [.ref (ad 22)] ++ List.replicate (1 - (lg_sl [.ref (ad 22)]).length) Slot.unset).toArray = ls at hl ⊢
  have hl : lv_has ls 1 [(0, .ref (ad 22))] := hl
  have hM : F_J0_isLatin1_aae02_ad22 = 1 := rfl
  refine va_gets (C := "java/lang/String") (n := "COMPACT_STRINGS") (d := "Z") (own := RJ0) (ref := "java/lang/String") (v := .int 1) hx hb hF.2.2.2.1 hS hown (hts (.fieldLink RJ0 38 "java/lang/String" "COMPACT_STRINGS" "Z") (List.mem_of_getElem? (i := 1) (by decide +kernel))) (fun _ h9 => h9) dJ0_isLatin1_aae02_0 ?_
  refine lv_if_eq (tgt := 17) hx hb dJ0_isLatin1_aae02_3 (by decide) (fun c9 => absurd c9 (by decide +kernel)) (fun _ => ?_)
  refine lv_aload_n hx hb dJ0_isLatin1_aae02_6 rfl (lv_at hl 0 rfl) ?_
  refine vk_getf (o := "java/lang/String") (n := "coder") (d := "B") (q := ad 22) (v := .int 0) hx hb ((fxst_ hF).1 2 (by decide)).2.1 hS hown (hts (.fieldLink RJ0 15 "java/lang/String" "coder" "B") (List.mem_of_getElem? (i := 2) (by decide +kernel))) (fun _ h9 => h9) dJ0_isLatin1_aae02_7 ?_
  refine lv_if_ne (tgt := 17) hx hb dJ0_isLatin1_aae02_10 (by decide) (fun c9 => absurd (by decide +kernel) c9) (fun _ => ?_)
  refine lv_iconst (v := 1) hx hb dJ0_isLatin1_aae02_13 (by decide) ?_
  refine lv_goto (tgt := 18) hx hb dJ0_isLatin1_aae02_14 (by decide) ?_
  refine W.widen (k := 0) (n := 0) (Nat.le_of_ble_eq_true rfl) (Nat.le_of_ble_eq_true rfl) ?_
  exact W.zret (v := 1) hx hb hr rfl (QR_.mk hS (by rw [hM])) hS.2.2 dJ0_isLatin1_aae02_18
def F_J1_charAt_3b067_0_ad42  : Int32 := 48
set_option maxHeartbeats 4000000 in
set_option maxRecDepth 100000 in
theorem c_J1_charAt_3b067_0_ad42 (l : Launch) (hl0 : l.stackTraces = false) (D : va_G) (ad : Nat → Nat) (sz : Nat)  : Met l yJ1_charAt_3b067 wsJ1_charAt_3b067 ({ frames := 2, cells := 0, slots := 0, locals := 47 }) (PR_ D ad [] [] sz [.ref (ad 42), .int 0]) (QR_ (.int (F_J1_charAt_3b067_0_ad42)) (va_A [] sz)) 0 0 (va_A [] sz) := by
  refine Met.ofW (cc := cJ1_charAt_3b067) (maxL := 2) (ret := (some .char)) (by decide) rfl ?_
  intro p e s m args below meth c s₁ B hml hv
  obtain ⟨rfl, hsz, hP, hK, hF⟩ := hv
  have hx := B.exec
  have hb := B.bytes
  have hr := B.returns
  have hts := atoms_spec (ws := wsJ1_charAt_3b067) B.pre
  have hown : s.vm.findClass RJ1 = some m.cls := findClass_of_methodNamed B.named
  have hlocks := B.notSynchronized
  subst hsz
  generalize hAe : va_A [] s.heap.size = A at hF ⊢
  have hA : ∀ q : Nat, s.heap.size ≤ q → A q := fun q h => by rw [← hAe]; exact Or.inr h
  obtain ⟨H, hHe⟩ : ∃ H : Heap, H = s.heap := ⟨_, rfl⟩
  have hS : va_S A s.heap H [] := by rw [hHe]; exact va_S.rf
  have hP : va_P D vwCl [] H := by rw [hHe]; exact hP
  rw [← hHe]
  have hl := lv_entry [.ref (ad 42), .int 0] (n := 2) (Nat.le_of_ble_eq_true rfl)
  rw [lg_entry_eq]
  generalize (lg_sl [.ref (ad 42), .int 0] ++ List.replicate (2 - (lg_sl [.ref (ad 42), .int 0]).length) Slot.unset).toArray = ls at hl ⊢
  have hl : lv_has ls 2 [(0, .ref (ad 42)), (1, .int 0)] := hl
  have hM : F_J1_charAt_3b067_0_ad42 = 48 := rfl
  refine lv_iload_n hx hb dJ1_charAt_3b067_0 rfl (lv_at hl 1 rfl) ?_
  refine lv_aload_n hx hb dJ1_charAt_3b067_1 rfl (lv_at hl 0 rfl) ?_
  refine va_tlen (v := 2) hx hb ((fxst_ hF).1 2 (by decide)).2.2.2 hS rfl dJ1_charAt_3b067_2 ?_
  refine krv_ (va_runS (As := [.int 0, .int 2]) (rest := []) ⟨hx, hb, hml, hown, hts⟩ (c_J0_checkIndex_df160 l hl0 D ad H.size 0 2 (by decide +kernel) (by decide +kernel)) (va_cwS 2 hts gJ1_charAt_3b067_J0_checkIndex_df160 rfl rfl rfl (by decide +kernel) ⟨Nat.le_of_ble_eq_true rfl, Nat.le_of_ble_eq_true rfl⟩) ⟨PR_.blind, PR_.pre hF hK (hP.sub [] rfl) hS hA [] rfl⟩ rfl rfl hl.1 rfl (lv_room (Nat.le_of_ble_eq_true rfl)) dJ1_charAt_3b067_3 ⟨(Nat.le_of_ble_eq_true rfl), (Nat.le_of_ble_eq_true rfl)⟩) hP hS hA (fun H locs hP hS => ?_)
  refine W.eq (g2 := F0 m 6 ls []) rfl ?_
  refine lv_aload_n hx hb dJ1_charAt_3b067_6 rfl (lv_at hl 0 rfl) ?_
  refine lv_iload_n hx hb dJ1_charAt_3b067_7 rfl (lv_at hl 1 rfl) ?_
  refine va_tb (v := .int 48) hx hb ((fxst_ hF).1 2 (by decide)).2.2.2 hS (vin_ (by decide +kernel)) rfl dJ1_charAt_3b067_8 ?_
  refine lv_sipush (v := 255) hx hb dJ1_charAt_3b067_9 (by decide +kernel) ?_
  refine lv_iand hx hb dJ1_charAt_3b067_12 ?_
  refine kt_ (v := 48) (by decide +kernel) ?_
  refine lv_i2c (v := 48) hx hb dJ1_charAt_3b067_13 (by decide +kernel) ?_
  refine W.widen (k := 0) (n := 0) (Nat.le_of_ble_eq_true rfl) (Nat.le_of_ble_eq_true rfl) ?_
  exact W.zret (v := 48) hx hb hr rfl (QR_.mk hS (by rw [hM])) hS.2.2 dJ1_charAt_3b067_14
def F_J0_charAt_5068e_0_ad22  : Int32 := 48
set_option maxHeartbeats 4000000 in
set_option maxRecDepth 100000 in
theorem c_J0_charAt_5068e_0_ad22 (l : Launch) (hl0 : l.stackTraces = false) (D : va_G) (ad : Nat → Nat) (sz : Nat)  : Met l yJ0_charAt_5068e wsJ0_charAt_5068e ({ frames := 3, cells := 0, slots := 0, locals := 70 }) (PR_ D ad [] [] sz [.ref (ad 22), .int 0]) (QR_ (.int (F_J0_charAt_5068e_0_ad22)) (va_A [] sz)) 0 0 (va_A [] sz) := by
  refine Met.ofW (cc := cJ0_charAt_5068e) (maxL := 2) (ret := (some .char)) (by decide) rfl ?_
  intro p e s m args below meth c s₁ B hml hv
  obtain ⟨rfl, hsz, hP, hK, hF⟩ := hv
  have hx := B.exec
  have hb := B.bytes
  have hr := B.returns
  have hts := atoms_spec (ws := wsJ0_charAt_5068e) B.pre
  have hown : s.vm.findClass RJ0 = some m.cls := findClass_of_methodNamed B.named
  have hlocks := B.notSynchronized
  subst hsz
  generalize hAe : va_A [] s.heap.size = A at hF ⊢
  have hA : ∀ q : Nat, s.heap.size ≤ q → A q := fun q h => by rw [← hAe]; exact Or.inr h
  obtain ⟨H, hHe⟩ : ∃ H : Heap, H = s.heap := ⟨_, rfl⟩
  have hS : va_S A s.heap H [] := by rw [hHe]; exact va_S.rf
  have hP : va_P D vwCl [] H := by rw [hHe]; exact hP
  rw [← hHe]
  have hl := lv_entry [.ref (ad 22), .int 0] (n := 2) (Nat.le_of_ble_eq_true rfl)
  rw [lg_entry_eq]
  generalize (lg_sl [.ref (ad 22), .int 0] ++ List.replicate (2 - (lg_sl [.ref (ad 22), .int 0]).length) Slot.unset).toArray = ls at hl ⊢
  have hl : lv_has ls 2 [(0, .ref (ad 22)), (1, .int 0)] := hl
  have hM : F_J0_charAt_5068e_0_ad22 = 48 := rfl
  refine lv_aload_n hx hb dJ0_charAt_5068e_0 rfl (lv_at hl 0 rfl) ?_
  refine kr_ (va_runV (As := []) (rest := []) ⟨hx, hb, hml, hown, hts⟩ (c_J0_isLatin1_aae02_ad22 l hl0 D ad H.size) (cwV 0 hts gJ0_charAt_5068e_J0_isLatin1_aae02 rfl rfl rfl (by decide +kernel) ⟨Nat.le_of_ble_eq_true rfl, Nat.le_of_ble_eq_true rfl⟩) ⟨PR_.blind, vk_recv (fxst_ hF) (i := 2) (by decide) hS, PR_.pre hF hK (hP.sub [] rfl) hS hA [] rfl⟩ rfl rfl hl.1 rfl (lv_room (Nat.le_of_ble_eq_true rfl)) dJ0_charAt_5068e_1 ⟨(Nat.le_of_ble_eq_true rfl), (Nat.le_of_ble_eq_true rfl)⟩) hP hS hA (fun H locs hP hS => ?_)
  refine W.eq (g2 := F0 m 4 ls [.int 1]) rfl ?_
  refine lv_if_eq (tgt := 16) hx hb dJ0_charAt_5068e_4 (by decide) (fun c9 => absurd c9 (by decide +kernel)) (fun _ => ?_)
  refine lv_aload_n hx hb dJ0_charAt_5068e_7 rfl (lv_at hl 0 rfl) ?_
  refine vk_getf (o := "java/lang/String") (n := "value") (d := "[B") (q := ad 22) (v := .ref (ad 42)) hx hb ((fxst_ hF).1 2 (by decide)).2.2.1 hS hown (hts (.fieldLink RJ0 9 "java/lang/String" "value" "[B") (List.mem_of_getElem? (i := 1) (by decide +kernel))) (fun _ h9 => h9) dJ0_charAt_5068e_8 ?_
  refine lv_iload_n hx hb dJ0_charAt_5068e_11 rfl (lv_at hl 1 rfl) ?_
  refine kr_ (va_runS (As := [.ref (ad 42), .int 0]) (rest := []) ⟨hx, hb, hml, hown, hts⟩ (c_J1_charAt_3b067_0_ad42 l hl0 D ad H.size) (va_cwS 2 hts gJ0_charAt_5068e_J1_charAt_3b067 rfl rfl rfl (by decide +kernel) ⟨Nat.le_of_ble_eq_true rfl, Nat.le_of_ble_eq_true rfl⟩) ⟨PR_.blind, PR_.pre hF hK (hP.sub [] rfl) hS hA [] rfl⟩ rfl rfl hl.1 rfl (lv_room (Nat.le_of_ble_eq_true rfl)) dJ0_charAt_5068e_12 ⟨(Nat.le_of_ble_eq_true rfl), (Nat.le_of_ble_eq_true rfl)⟩) hP hS hA (fun H locs hP hS => ?_)
  refine W.eq (g2 := F0 m 15 ls [.int 48]) rfl ?_
  refine W.widen (k := 0) (n := 0) (Nat.le_of_ble_eq_true rfl) (Nat.le_of_ble_eq_true rfl) ?_
  exact W.zret (v := 48) hx hb hr rfl (QR_.mk hS (by rw [hM])) hS.2.2 dJ0_charAt_5068e_15
def F_J1_charAt_3b067_1_ad42  : Int32 := 49
set_option maxHeartbeats 4000000 in
set_option maxRecDepth 100000 in
theorem c_J1_charAt_3b067_1_ad42 (l : Launch) (hl0 : l.stackTraces = false) (D : va_G) (ad : Nat → Nat) (sz : Nat)  : Met l yJ1_charAt_3b067 wsJ1_charAt_3b067 ({ frames := 2, cells := 0, slots := 0, locals := 47 }) (PR_ D ad [] [] sz [.ref (ad 42), .int 1]) (QR_ (.int (F_J1_charAt_3b067_1_ad42)) (va_A [] sz)) 0 0 (va_A [] sz) := by
  refine Met.ofW (cc := cJ1_charAt_3b067) (maxL := 2) (ret := (some .char)) (by decide) rfl ?_
  intro p e s m args below meth c s₁ B hml hv
  obtain ⟨rfl, hsz, hP, hK, hF⟩ := hv
  have hx := B.exec
  have hb := B.bytes
  have hr := B.returns
  have hts := atoms_spec (ws := wsJ1_charAt_3b067) B.pre
  have hown : s.vm.findClass RJ1 = some m.cls := findClass_of_methodNamed B.named
  have hlocks := B.notSynchronized
  subst hsz
  generalize hAe : va_A [] s.heap.size = A at hF ⊢
  have hA : ∀ q : Nat, s.heap.size ≤ q → A q := fun q h => by rw [← hAe]; exact Or.inr h
  obtain ⟨H, hHe⟩ : ∃ H : Heap, H = s.heap := ⟨_, rfl⟩
  have hS : va_S A s.heap H [] := by rw [hHe]; exact va_S.rf
  have hP : va_P D vwCl [] H := by rw [hHe]; exact hP
  rw [← hHe]
  have hl := lv_entry [.ref (ad 42), .int 1] (n := 2) (Nat.le_of_ble_eq_true rfl)
  rw [lg_entry_eq]
  generalize (lg_sl [.ref (ad 42), .int 1] ++ List.replicate (2 - (lg_sl [.ref (ad 42), .int 1]).length) Slot.unset).toArray = ls at hl ⊢
  have hl : lv_has ls 2 [(0, .ref (ad 42)), (1, .int 1)] := hl
  have hM : F_J1_charAt_3b067_1_ad42 = 49 := rfl
  refine lv_iload_n hx hb dJ1_charAt_3b067_0 rfl (lv_at hl 1 rfl) ?_
  refine lv_aload_n hx hb dJ1_charAt_3b067_1 rfl (lv_at hl 0 rfl) ?_
  refine va_tlen (v := 2) hx hb ((fxst_ hF).1 2 (by decide)).2.2.2 hS rfl dJ1_charAt_3b067_2 ?_
  refine krv_ (va_runS (As := [.int 1, .int 2]) (rest := []) ⟨hx, hb, hml, hown, hts⟩ (c_J0_checkIndex_df160 l hl0 D ad H.size 1 2 (by decide +kernel) (by decide +kernel)) (va_cwS 2 hts gJ1_charAt_3b067_J0_checkIndex_df160 rfl rfl rfl (by decide +kernel) ⟨Nat.le_of_ble_eq_true rfl, Nat.le_of_ble_eq_true rfl⟩) ⟨PR_.blind, PR_.pre hF hK (hP.sub [] rfl) hS hA [] rfl⟩ rfl rfl hl.1 rfl (lv_room (Nat.le_of_ble_eq_true rfl)) dJ1_charAt_3b067_3 ⟨(Nat.le_of_ble_eq_true rfl), (Nat.le_of_ble_eq_true rfl)⟩) hP hS hA (fun H locs hP hS => ?_)
  refine W.eq (g2 := F0 m 6 ls []) rfl ?_
  refine lv_aload_n hx hb dJ1_charAt_3b067_6 rfl (lv_at hl 0 rfl) ?_
  refine lv_iload_n hx hb dJ1_charAt_3b067_7 rfl (lv_at hl 1 rfl) ?_
  refine va_tb (v := .int 49) hx hb ((fxst_ hF).1 2 (by decide)).2.2.2 hS (vin_ (by decide +kernel)) rfl dJ1_charAt_3b067_8 ?_
  refine lv_sipush (v := 255) hx hb dJ1_charAt_3b067_9 (by decide +kernel) ?_
  refine lv_iand hx hb dJ1_charAt_3b067_12 ?_
  refine kt_ (v := 49) (by decide +kernel) ?_
  refine lv_i2c (v := 49) hx hb dJ1_charAt_3b067_13 (by decide +kernel) ?_
  refine W.widen (k := 0) (n := 0) (Nat.le_of_ble_eq_true rfl) (Nat.le_of_ble_eq_true rfl) ?_
  exact W.zret (v := 49) hx hb hr rfl (QR_.mk hS (by rw [hM])) hS.2.2 dJ1_charAt_3b067_14
def F_J0_charAt_5068e_1_ad22  : Int32 := 49
set_option maxHeartbeats 4000000 in
set_option maxRecDepth 100000 in
theorem c_J0_charAt_5068e_1_ad22 (l : Launch) (hl0 : l.stackTraces = false) (D : va_G) (ad : Nat → Nat) (sz : Nat)  : Met l yJ0_charAt_5068e wsJ0_charAt_5068e ({ frames := 3, cells := 0, slots := 0, locals := 70 }) (PR_ D ad [] [] sz [.ref (ad 22), .int 1]) (QR_ (.int (F_J0_charAt_5068e_1_ad22)) (va_A [] sz)) 0 0 (va_A [] sz) := by
  refine Met.ofW (cc := cJ0_charAt_5068e) (maxL := 2) (ret := (some .char)) (by decide) rfl ?_
  intro p e s m args below meth c s₁ B hml hv
  obtain ⟨rfl, hsz, hP, hK, hF⟩ := hv
  have hx := B.exec
  have hb := B.bytes
  have hr := B.returns
  have hts := atoms_spec (ws := wsJ0_charAt_5068e) B.pre
  have hown : s.vm.findClass RJ0 = some m.cls := findClass_of_methodNamed B.named
  have hlocks := B.notSynchronized
  subst hsz
  generalize hAe : va_A [] s.heap.size = A at hF ⊢
  have hA : ∀ q : Nat, s.heap.size ≤ q → A q := fun q h => by rw [← hAe]; exact Or.inr h
  obtain ⟨H, hHe⟩ : ∃ H : Heap, H = s.heap := ⟨_, rfl⟩
  have hS : va_S A s.heap H [] := by rw [hHe]; exact va_S.rf
  have hP : va_P D vwCl [] H := by rw [hHe]; exact hP
  rw [← hHe]
  have hl := lv_entry [.ref (ad 22), .int 1] (n := 2) (Nat.le_of_ble_eq_true rfl)
  rw [lg_entry_eq]
  generalize (lg_sl [.ref (ad 22), .int 1] ++ List.replicate (2 - (lg_sl [.ref (ad 22), .int 1]).length) Slot.unset).toArray = ls at hl ⊢
  have hl : lv_has ls 2 [(0, .ref (ad 22)), (1, .int 1)] := hl
  have hM : F_J0_charAt_5068e_1_ad22 = 49 := rfl
  refine lv_aload_n hx hb dJ0_charAt_5068e_0 rfl (lv_at hl 0 rfl) ?_
  refine kr_ (va_runV (As := []) (rest := []) ⟨hx, hb, hml, hown, hts⟩ (c_J0_isLatin1_aae02_ad22 l hl0 D ad H.size) (cwV 0 hts gJ0_charAt_5068e_J0_isLatin1_aae02 rfl rfl rfl (by decide +kernel) ⟨Nat.le_of_ble_eq_true rfl, Nat.le_of_ble_eq_true rfl⟩) ⟨PR_.blind, vk_recv (fxst_ hF) (i := 2) (by decide) hS, PR_.pre hF hK (hP.sub [] rfl) hS hA [] rfl⟩ rfl rfl hl.1 rfl (lv_room (Nat.le_of_ble_eq_true rfl)) dJ0_charAt_5068e_1 ⟨(Nat.le_of_ble_eq_true rfl), (Nat.le_of_ble_eq_true rfl)⟩) hP hS hA (fun H locs hP hS => ?_)
  refine W.eq (g2 := F0 m 4 ls [.int 1]) rfl ?_
  refine lv_if_eq (tgt := 16) hx hb dJ0_charAt_5068e_4 (by decide) (fun c9 => absurd c9 (by decide +kernel)) (fun _ => ?_)
  refine lv_aload_n hx hb dJ0_charAt_5068e_7 rfl (lv_at hl 0 rfl) ?_
  refine vk_getf (o := "java/lang/String") (n := "value") (d := "[B") (q := ad 22) (v := .ref (ad 42)) hx hb ((fxst_ hF).1 2 (by decide)).2.2.1 hS hown (hts (.fieldLink RJ0 9 "java/lang/String" "value" "[B") (List.mem_of_getElem? (i := 1) (by decide +kernel))) (fun _ h9 => h9) dJ0_charAt_5068e_8 ?_
  refine lv_iload_n hx hb dJ0_charAt_5068e_11 rfl (lv_at hl 1 rfl) ?_
  refine kr_ (va_runS (As := [.ref (ad 42), .int 1]) (rest := []) ⟨hx, hb, hml, hown, hts⟩ (c_J1_charAt_3b067_1_ad42 l hl0 D ad H.size) (va_cwS 2 hts gJ0_charAt_5068e_J1_charAt_3b067 rfl rfl rfl (by decide +kernel) ⟨Nat.le_of_ble_eq_true rfl, Nat.le_of_ble_eq_true rfl⟩) ⟨PR_.blind, PR_.pre hF hK (hP.sub [] rfl) hS hA [] rfl⟩ rfl rfl hl.1 rfl (lv_room (Nat.le_of_ble_eq_true rfl)) dJ0_charAt_5068e_12 ⟨(Nat.le_of_ble_eq_true rfl), (Nat.le_of_ble_eq_true rfl)⟩) hP hS hA (fun H locs hP hS => ?_)
  refine W.eq (g2 := F0 m 15 ls [.int 49]) rfl ?_
  refine W.widen (k := 0) (n := 0) (Nat.le_of_ble_eq_true rfl) (Nat.le_of_ble_eq_true rfl) ?_
  exact W.zret (v := 49) hx hb hr rfl (QR_.mk hS (by rw [hM])) hS.2.2 dJ0_charAt_5068e_15
def F_J0_coder_7d493_ad23  : Int32 := 0
set_option maxHeartbeats 4000000 in
set_option maxRecDepth 100000 in
theorem c_J0_coder_7d493_ad23 (l : Launch) (hl0 : l.stackTraces = false) (D : va_G) (ad : Nat → Nat) (sz : Nat)  : Met l yJ0_coder_7d493 wsJ0_coder_7d493 ({ frames := 0, cells := 0, slots := 0, locals := 0 }) (PR_ D ad [] [] sz [.ref (ad 23)]) (QR_ (.int (F_J0_coder_7d493_ad23)) (va_A [] sz)) 0 0 (va_A [] sz) := by
  refine Met.ofW (cc := cJ0_coder_7d493) (maxL := 1) (ret := (some .byte)) (by decide) rfl ?_
  intro p e s m args below meth c s₁ B hml hv
  obtain ⟨rfl, hsz, hP, hK, hF⟩ := hv
  have hx := B.exec
  have hb := B.bytes
  have hr := B.returns
  have hts := atoms_spec (ws := wsJ0_coder_7d493) B.pre
  have hown : s.vm.findClass RJ0 = some m.cls := findClass_of_methodNamed B.named
  have hlocks := B.notSynchronized
  subst hsz
  generalize hAe : va_A [] s.heap.size = A at hF ⊢
  have hA : ∀ q : Nat, s.heap.size ≤ q → A q := fun q h => by rw [← hAe]; exact Or.inr h
  obtain ⟨H, hHe⟩ : ∃ H : Heap, H = s.heap := ⟨_, rfl⟩
  have hS : va_S A s.heap H [] := by rw [hHe]; exact va_S.rf
  have hP : va_P D vwCl [] H := by rw [hHe]; exact hP
  rw [← hHe]
  have hl := lv_entry [.ref (ad 23)] (n := 1) (Nat.le_of_ble_eq_true rfl)
  rw [lg_entry_eq]
  generalize (lg_sl [.ref (ad 23)] ++ List.replicate (1 - (lg_sl [.ref (ad 23)]).length) Slot.unset).toArray = ls at hl ⊢
  have hl : lv_has ls 1 [(0, .ref (ad 23))] := hl
  have hM : F_J0_coder_7d493_ad23 = 0 := rfl
  refine va_gets (C := "java/lang/String") (n := "COMPACT_STRINGS") (d := "Z") (own := RJ0) (ref := "java/lang/String") (v := .int 1) hx hb hF.2.2.2.1 hS hown (hts (.fieldLink RJ0 38 "java/lang/String" "COMPACT_STRINGS" "Z") (List.mem_of_getElem? (i := 1) (by decide +kernel))) (fun _ h9 => h9) dJ0_coder_7d493_0 ?_
  refine lv_if_eq (tgt := 13) hx hb dJ0_coder_7d493_3 (by decide) (fun c9 => absurd c9 (by decide +kernel)) (fun _ => ?_)
  refine lv_aload_n hx hb dJ0_coder_7d493_6 rfl (lv_at hl 0 rfl) ?_
  refine vk_getf (o := "java/lang/String") (n := "coder") (d := "B") (q := ad 23) (v := .int 0) hx hb ((fxst_ hF).1 3 (by decide)).2.1 hS hown (hts (.fieldLink RJ0 15 "java/lang/String" "coder" "B") (List.mem_of_getElem? (i := 2) (by decide +kernel))) (fun _ h9 => h9) dJ0_coder_7d493_7 ?_
  refine lv_goto (tgt := 14) hx hb dJ0_coder_7d493_10 (by decide) ?_
  refine W.widen (k := 0) (n := 0) (Nat.le_of_ble_eq_true rfl) (Nat.le_of_ble_eq_true rfl) ?_
  exact W.zret (v := 0) hx hb hr rfl (QR_.mk hS (by rw [hM])) hS.2.2 dJ0_coder_7d493_14
def F_J0_length_8abf5_ad23  : Int32 := 3
set_option maxHeartbeats 4000000 in
set_option maxRecDepth 100000 in
theorem c_J0_length_8abf5_ad23 (l : Launch) (hl0 : l.stackTraces = false) (D : va_G) (ad : Nat → Nat) (sz : Nat)  : Met l yJ0_length_8abf5 wsJ0_length_8abf5 ({ frames := 1, cells := 0, slots := 0, locals := 22 }) (PR_ D ad [] [] sz [.ref (ad 23)]) (QR_ (.int (F_J0_length_8abf5_ad23)) (va_A [] sz)) 0 0 (va_A [] sz) := by
  refine Met.ofW (cc := cJ0_length_8abf5) (maxL := 1) (ret := (some .int)) (by decide) rfl ?_
  intro p e s m args below meth c s₁ B hml hv
  obtain ⟨rfl, hsz, hP, hK, hF⟩ := hv
  have hx := B.exec
  have hb := B.bytes
  have hr := B.returns
  have hts := atoms_spec (ws := wsJ0_length_8abf5) B.pre
  have hown : s.vm.findClass RJ0 = some m.cls := findClass_of_methodNamed B.named
  have hlocks := B.notSynchronized
  subst hsz
  generalize hAe : va_A [] s.heap.size = A at hF ⊢
  have hA : ∀ q : Nat, s.heap.size ≤ q → A q := fun q h => by rw [← hAe]; exact Or.inr h
  obtain ⟨H, hHe⟩ : ∃ H : Heap, H = s.heap := ⟨_, rfl⟩
  have hS : va_S A s.heap H [] := by rw [hHe]; exact va_S.rf
  have hP : va_P D vwCl [] H := by rw [hHe]; exact hP
  rw [← hHe]
  have hl := lv_entry [.ref (ad 23)] (n := 1) (Nat.le_of_ble_eq_true rfl)
  rw [lg_entry_eq]
  generalize (lg_sl [.ref (ad 23)] ++ List.replicate (1 - (lg_sl [.ref (ad 23)]).length) Slot.unset).toArray = ls at hl ⊢
  have hl : lv_has ls 1 [(0, .ref (ad 23))] := hl
  have hM : F_J0_length_8abf5_ad23 = 3 := rfl
  refine lv_aload_n hx hb dJ0_length_8abf5_0 rfl (lv_at hl 0 rfl) ?_
  refine vk_getf (o := "java/lang/String") (n := "value") (d := "[B") (q := ad 23) (v := .ref (ad 43)) hx hb ((fxst_ hF).1 3 (by decide)).2.2.1 hS hown (hts (.fieldLink RJ0 9 "java/lang/String" "value" "[B") (List.mem_of_getElem? (i := 1) (by decide +kernel))) (fun _ h9 => h9) dJ0_length_8abf5_1 ?_
  refine va_tlen (v := 3) hx hb ((fxst_ hF).1 3 (by decide)).2.2.2 hS rfl dJ0_length_8abf5_4 ?_
  refine lv_aload_n hx hb dJ0_length_8abf5_5 rfl (lv_at hl 0 rfl) ?_
  refine kr_ (va_runV (As := []) (rest := [.int 3]) ⟨hx, hb, hml, hown, hts⟩ (c_J0_coder_7d493_ad23 l hl0 D ad H.size) (cwV 0 hts gJ0_length_8abf5_J0_coder_7d493 rfl rfl rfl (by decide +kernel) ⟨Nat.le_of_ble_eq_true rfl, Nat.le_of_ble_eq_true rfl⟩) ⟨PR_.blind, vk_recv (fxst_ hF) (i := 3) (by decide) hS, PR_.pre hF hK (hP.sub [] rfl) hS hA [] rfl⟩ rfl rfl hl.1 rfl (lv_room (Nat.le_of_ble_eq_true rfl)) dJ0_length_8abf5_6 ⟨(Nat.le_of_ble_eq_true rfl), (Nat.le_of_ble_eq_true rfl)⟩) hP hS hA (fun H locs hP hS => ?_)
  refine W.eq (g2 := F0 m 9 ls [.int 0, .int 3]) rfl ?_
  refine lv_ishr hx hb dJ0_length_8abf5_9 ?_
  refine kt_ (v := 3) (by decide +kernel) ?_
  refine W.widen (k := 0) (n := 0) (Nat.le_of_ble_eq_true rfl) (Nat.le_of_ble_eq_true rfl) ?_
  exact W.iret (v := 3) hx hb hr (QR_.mk hS (by rw [hM])) hS.2.2 dJ0_length_8abf5_10
def F_J0_isLatin1_aae02_ad23  : Int32 := 1
set_option maxHeartbeats 4000000 in
set_option maxRecDepth 100000 in
theorem c_J0_isLatin1_aae02_ad23 (l : Launch) (hl0 : l.stackTraces = false) (D : va_G) (ad : Nat → Nat) (sz : Nat)  : Met l yJ0_isLatin1_aae02 wsJ0_isLatin1_aae02 ({ frames := 0, cells := 0, slots := 0, locals := 0 }) (PR_ D ad [] [] sz [.ref (ad 23)]) (QR_ (.int (F_J0_isLatin1_aae02_ad23)) (va_A [] sz)) 0 0 (va_A [] sz) := by
  refine Met.ofW (cc := cJ0_isLatin1_aae02) (maxL := 1) (ret := (some .boolean)) (by decide) rfl ?_
  intro p e s m args below meth c s₁ B hml hv
  obtain ⟨rfl, hsz, hP, hK, hF⟩ := hv
  have hx := B.exec
  have hb := B.bytes
  have hr := B.returns
  have hts := atoms_spec (ws := wsJ0_isLatin1_aae02) B.pre
  have hown : s.vm.findClass RJ0 = some m.cls := findClass_of_methodNamed B.named
  have hlocks := B.notSynchronized
  subst hsz
  generalize hAe : va_A [] s.heap.size = A at hF ⊢
  have hA : ∀ q : Nat, s.heap.size ≤ q → A q := fun q h => by rw [← hAe]; exact Or.inr h
  obtain ⟨H, hHe⟩ : ∃ H : Heap, H = s.heap := ⟨_, rfl⟩
  have hS : va_S A s.heap H [] := by rw [hHe]; exact va_S.rf
  have hP : va_P D vwCl [] H := by rw [hHe]; exact hP
  rw [← hHe]
  have hl := lv_entry [.ref (ad 23)] (n := 1) (Nat.le_of_ble_eq_true rfl)
  rw [lg_entry_eq]
  generalize (lg_sl [.ref (ad 23)] ++ List.replicate (1 - (lg_sl [.ref (ad 23)]).length) Slot.unset).toArray = ls at hl ⊢
  have hl : lv_has ls 1 [(0, .ref (ad 23))] := hl
  have hM : F_J0_isLatin1_aae02_ad23 = 1 := rfl
  refine va_gets (C := "java/lang/String") (n := "COMPACT_STRINGS") (d := "Z") (own := RJ0) (ref := "java/lang/String") (v := .int 1) hx hb hF.2.2.2.1 hS hown (hts (.fieldLink RJ0 38 "java/lang/String" "COMPACT_STRINGS" "Z") (List.mem_of_getElem? (i := 1) (by decide +kernel))) (fun _ h9 => h9) dJ0_isLatin1_aae02_0 ?_
  refine lv_if_eq (tgt := 17) hx hb dJ0_isLatin1_aae02_3 (by decide) (fun c9 => absurd c9 (by decide +kernel)) (fun _ => ?_)
  refine lv_aload_n hx hb dJ0_isLatin1_aae02_6 rfl (lv_at hl 0 rfl) ?_
  refine vk_getf (o := "java/lang/String") (n := "coder") (d := "B") (q := ad 23) (v := .int 0) hx hb ((fxst_ hF).1 3 (by decide)).2.1 hS hown (hts (.fieldLink RJ0 15 "java/lang/String" "coder" "B") (List.mem_of_getElem? (i := 2) (by decide +kernel))) (fun _ h9 => h9) dJ0_isLatin1_aae02_7 ?_
  refine lv_if_ne (tgt := 17) hx hb dJ0_isLatin1_aae02_10 (by decide) (fun c9 => absurd (by decide +kernel) c9) (fun _ => ?_)
  refine lv_iconst (v := 1) hx hb dJ0_isLatin1_aae02_13 (by decide) ?_
  refine lv_goto (tgt := 18) hx hb dJ0_isLatin1_aae02_14 (by decide) ?_
  refine W.widen (k := 0) (n := 0) (Nat.le_of_ble_eq_true rfl) (Nat.le_of_ble_eq_true rfl) ?_
  exact W.zret (v := 1) hx hb hr rfl (QR_.mk hS (by rw [hM])) hS.2.2 dJ0_isLatin1_aae02_18
def F_J1_charAt_3b067_0_ad43  : Int32 := 48
set_option maxHeartbeats 4000000 in
set_option maxRecDepth 100000 in
theorem c_J1_charAt_3b067_0_ad43 (l : Launch) (hl0 : l.stackTraces = false) (D : va_G) (ad : Nat → Nat) (sz : Nat)  : Met l yJ1_charAt_3b067 wsJ1_charAt_3b067 ({ frames := 2, cells := 0, slots := 0, locals := 47 }) (PR_ D ad [] [] sz [.ref (ad 43), .int 0]) (QR_ (.int (F_J1_charAt_3b067_0_ad43)) (va_A [] sz)) 0 0 (va_A [] sz) := by
  refine Met.ofW (cc := cJ1_charAt_3b067) (maxL := 2) (ret := (some .char)) (by decide) rfl ?_
  intro p e s m args below meth c s₁ B hml hv
  obtain ⟨rfl, hsz, hP, hK, hF⟩ := hv
  have hx := B.exec
  have hb := B.bytes
  have hr := B.returns
  have hts := atoms_spec (ws := wsJ1_charAt_3b067) B.pre
  have hown : s.vm.findClass RJ1 = some m.cls := findClass_of_methodNamed B.named
  have hlocks := B.notSynchronized
  subst hsz
  generalize hAe : va_A [] s.heap.size = A at hF ⊢
  have hA : ∀ q : Nat, s.heap.size ≤ q → A q := fun q h => by rw [← hAe]; exact Or.inr h
  obtain ⟨H, hHe⟩ : ∃ H : Heap, H = s.heap := ⟨_, rfl⟩
  have hS : va_S A s.heap H [] := by rw [hHe]; exact va_S.rf
  have hP : va_P D vwCl [] H := by rw [hHe]; exact hP
  rw [← hHe]
  have hl := lv_entry [.ref (ad 43), .int 0] (n := 2) (Nat.le_of_ble_eq_true rfl)
  rw [lg_entry_eq]
  generalize (lg_sl [.ref (ad 43), .int 0] ++ List.replicate (2 - (lg_sl [.ref (ad 43), .int 0]).length) Slot.unset).toArray = ls at hl ⊢
  have hl : lv_has ls 2 [(0, .ref (ad 43)), (1, .int 0)] := hl
  have hM : F_J1_charAt_3b067_0_ad43 = 48 := rfl
  refine lv_iload_n hx hb dJ1_charAt_3b067_0 rfl (lv_at hl 1 rfl) ?_
  refine lv_aload_n hx hb dJ1_charAt_3b067_1 rfl (lv_at hl 0 rfl) ?_
  refine va_tlen (v := 3) hx hb ((fxst_ hF).1 3 (by decide)).2.2.2 hS rfl dJ1_charAt_3b067_2 ?_
  refine krv_ (va_runS (As := [.int 0, .int 3]) (rest := []) ⟨hx, hb, hml, hown, hts⟩ (c_J0_checkIndex_df160 l hl0 D ad H.size 0 3 (by decide +kernel) (by decide +kernel)) (va_cwS 2 hts gJ1_charAt_3b067_J0_checkIndex_df160 rfl rfl rfl (by decide +kernel) ⟨Nat.le_of_ble_eq_true rfl, Nat.le_of_ble_eq_true rfl⟩) ⟨PR_.blind, PR_.pre hF hK (hP.sub [] rfl) hS hA [] rfl⟩ rfl rfl hl.1 rfl (lv_room (Nat.le_of_ble_eq_true rfl)) dJ1_charAt_3b067_3 ⟨(Nat.le_of_ble_eq_true rfl), (Nat.le_of_ble_eq_true rfl)⟩) hP hS hA (fun H locs hP hS => ?_)
  refine W.eq (g2 := F0 m 6 ls []) rfl ?_
  refine lv_aload_n hx hb dJ1_charAt_3b067_6 rfl (lv_at hl 0 rfl) ?_
  refine lv_iload_n hx hb dJ1_charAt_3b067_7 rfl (lv_at hl 1 rfl) ?_
  refine va_tb (v := .int 48) hx hb ((fxst_ hF).1 3 (by decide)).2.2.2 hS (vin_ (by decide +kernel)) rfl dJ1_charAt_3b067_8 ?_
  refine lv_sipush (v := 255) hx hb dJ1_charAt_3b067_9 (by decide +kernel) ?_
  refine lv_iand hx hb dJ1_charAt_3b067_12 ?_
  refine kt_ (v := 48) (by decide +kernel) ?_
  refine lv_i2c (v := 48) hx hb dJ1_charAt_3b067_13 (by decide +kernel) ?_
  refine W.widen (k := 0) (n := 0) (Nat.le_of_ble_eq_true rfl) (Nat.le_of_ble_eq_true rfl) ?_
  exact W.zret (v := 48) hx hb hr rfl (QR_.mk hS (by rw [hM])) hS.2.2 dJ1_charAt_3b067_14
def F_J0_charAt_5068e_0_ad23  : Int32 := 48
set_option maxHeartbeats 4000000 in
set_option maxRecDepth 100000 in
theorem c_J0_charAt_5068e_0_ad23 (l : Launch) (hl0 : l.stackTraces = false) (D : va_G) (ad : Nat → Nat) (sz : Nat)  : Met l yJ0_charAt_5068e wsJ0_charAt_5068e ({ frames := 3, cells := 0, slots := 0, locals := 70 }) (PR_ D ad [] [] sz [.ref (ad 23), .int 0]) (QR_ (.int (F_J0_charAt_5068e_0_ad23)) (va_A [] sz)) 0 0 (va_A [] sz) := by
  refine Met.ofW (cc := cJ0_charAt_5068e) (maxL := 2) (ret := (some .char)) (by decide) rfl ?_
  intro p e s m args below meth c s₁ B hml hv
  obtain ⟨rfl, hsz, hP, hK, hF⟩ := hv
  have hx := B.exec
  have hb := B.bytes
  have hr := B.returns
  have hts := atoms_spec (ws := wsJ0_charAt_5068e) B.pre
  have hown : s.vm.findClass RJ0 = some m.cls := findClass_of_methodNamed B.named
  have hlocks := B.notSynchronized
  subst hsz
  generalize hAe : va_A [] s.heap.size = A at hF ⊢
  have hA : ∀ q : Nat, s.heap.size ≤ q → A q := fun q h => by rw [← hAe]; exact Or.inr h
  obtain ⟨H, hHe⟩ : ∃ H : Heap, H = s.heap := ⟨_, rfl⟩
  have hS : va_S A s.heap H [] := by rw [hHe]; exact va_S.rf
  have hP : va_P D vwCl [] H := by rw [hHe]; exact hP
  rw [← hHe]
  have hl := lv_entry [.ref (ad 23), .int 0] (n := 2) (Nat.le_of_ble_eq_true rfl)
  rw [lg_entry_eq]
  generalize (lg_sl [.ref (ad 23), .int 0] ++ List.replicate (2 - (lg_sl [.ref (ad 23), .int 0]).length) Slot.unset).toArray = ls at hl ⊢
  have hl : lv_has ls 2 [(0, .ref (ad 23)), (1, .int 0)] := hl
  have hM : F_J0_charAt_5068e_0_ad23 = 48 := rfl
  refine lv_aload_n hx hb dJ0_charAt_5068e_0 rfl (lv_at hl 0 rfl) ?_
  refine kr_ (va_runV (As := []) (rest := []) ⟨hx, hb, hml, hown, hts⟩ (c_J0_isLatin1_aae02_ad23 l hl0 D ad H.size) (cwV 0 hts gJ0_charAt_5068e_J0_isLatin1_aae02 rfl rfl rfl (by decide +kernel) ⟨Nat.le_of_ble_eq_true rfl, Nat.le_of_ble_eq_true rfl⟩) ⟨PR_.blind, vk_recv (fxst_ hF) (i := 3) (by decide) hS, PR_.pre hF hK (hP.sub [] rfl) hS hA [] rfl⟩ rfl rfl hl.1 rfl (lv_room (Nat.le_of_ble_eq_true rfl)) dJ0_charAt_5068e_1 ⟨(Nat.le_of_ble_eq_true rfl), (Nat.le_of_ble_eq_true rfl)⟩) hP hS hA (fun H locs hP hS => ?_)
  refine W.eq (g2 := F0 m 4 ls [.int 1]) rfl ?_
  refine lv_if_eq (tgt := 16) hx hb dJ0_charAt_5068e_4 (by decide) (fun c9 => absurd c9 (by decide +kernel)) (fun _ => ?_)
  refine lv_aload_n hx hb dJ0_charAt_5068e_7 rfl (lv_at hl 0 rfl) ?_
  refine vk_getf (o := "java/lang/String") (n := "value") (d := "[B") (q := ad 23) (v := .ref (ad 43)) hx hb ((fxst_ hF).1 3 (by decide)).2.2.1 hS hown (hts (.fieldLink RJ0 9 "java/lang/String" "value" "[B") (List.mem_of_getElem? (i := 1) (by decide +kernel))) (fun _ h9 => h9) dJ0_charAt_5068e_8 ?_
  refine lv_iload_n hx hb dJ0_charAt_5068e_11 rfl (lv_at hl 1 rfl) ?_
  refine kr_ (va_runS (As := [.ref (ad 43), .int 0]) (rest := []) ⟨hx, hb, hml, hown, hts⟩ (c_J1_charAt_3b067_0_ad43 l hl0 D ad H.size) (va_cwS 2 hts gJ0_charAt_5068e_J1_charAt_3b067 rfl rfl rfl (by decide +kernel) ⟨Nat.le_of_ble_eq_true rfl, Nat.le_of_ble_eq_true rfl⟩) ⟨PR_.blind, PR_.pre hF hK (hP.sub [] rfl) hS hA [] rfl⟩ rfl rfl hl.1 rfl (lv_room (Nat.le_of_ble_eq_true rfl)) dJ0_charAt_5068e_12 ⟨(Nat.le_of_ble_eq_true rfl), (Nat.le_of_ble_eq_true rfl)⟩) hP hS hA (fun H locs hP hS => ?_)
  refine W.eq (g2 := F0 m 15 ls [.int 48]) rfl ?_
  refine W.widen (k := 0) (n := 0) (Nat.le_of_ble_eq_true rfl) (Nat.le_of_ble_eq_true rfl) ?_
  exact W.zret (v := 48) hx hb hr rfl (QR_.mk hS (by rw [hM])) hS.2.2 dJ0_charAt_5068e_15
def F_J1_charAt_3b067_1_ad43  : Int32 := 61
set_option maxHeartbeats 4000000 in
set_option maxRecDepth 100000 in
theorem c_J1_charAt_3b067_1_ad43 (l : Launch) (hl0 : l.stackTraces = false) (D : va_G) (ad : Nat → Nat) (sz : Nat)  : Met l yJ1_charAt_3b067 wsJ1_charAt_3b067 ({ frames := 2, cells := 0, slots := 0, locals := 47 }) (PR_ D ad [] [] sz [.ref (ad 43), .int 1]) (QR_ (.int (F_J1_charAt_3b067_1_ad43)) (va_A [] sz)) 0 0 (va_A [] sz) := by
  refine Met.ofW (cc := cJ1_charAt_3b067) (maxL := 2) (ret := (some .char)) (by decide) rfl ?_
  intro p e s m args below meth c s₁ B hml hv
  obtain ⟨rfl, hsz, hP, hK, hF⟩ := hv
  have hx := B.exec
  have hb := B.bytes
  have hr := B.returns
  have hts := atoms_spec (ws := wsJ1_charAt_3b067) B.pre
  have hown : s.vm.findClass RJ1 = some m.cls := findClass_of_methodNamed B.named
  have hlocks := B.notSynchronized
  subst hsz
  generalize hAe : va_A [] s.heap.size = A at hF ⊢
  have hA : ∀ q : Nat, s.heap.size ≤ q → A q := fun q h => by rw [← hAe]; exact Or.inr h
  obtain ⟨H, hHe⟩ : ∃ H : Heap, H = s.heap := ⟨_, rfl⟩
  have hS : va_S A s.heap H [] := by rw [hHe]; exact va_S.rf
  have hP : va_P D vwCl [] H := by rw [hHe]; exact hP
  rw [← hHe]
  have hl := lv_entry [.ref (ad 43), .int 1] (n := 2) (Nat.le_of_ble_eq_true rfl)
  rw [lg_entry_eq]
  generalize (lg_sl [.ref (ad 43), .int 1] ++ List.replicate (2 - (lg_sl [.ref (ad 43), .int 1]).length) Slot.unset).toArray = ls at hl ⊢
  have hl : lv_has ls 2 [(0, .ref (ad 43)), (1, .int 1)] := hl
  have hM : F_J1_charAt_3b067_1_ad43 = 61 := rfl
  refine lv_iload_n hx hb dJ1_charAt_3b067_0 rfl (lv_at hl 1 rfl) ?_
  refine lv_aload_n hx hb dJ1_charAt_3b067_1 rfl (lv_at hl 0 rfl) ?_
  refine va_tlen (v := 3) hx hb ((fxst_ hF).1 3 (by decide)).2.2.2 hS rfl dJ1_charAt_3b067_2 ?_
  refine krv_ (va_runS (As := [.int 1, .int 3]) (rest := []) ⟨hx, hb, hml, hown, hts⟩ (c_J0_checkIndex_df160 l hl0 D ad H.size 1 3 (by decide +kernel) (by decide +kernel)) (va_cwS 2 hts gJ1_charAt_3b067_J0_checkIndex_df160 rfl rfl rfl (by decide +kernel) ⟨Nat.le_of_ble_eq_true rfl, Nat.le_of_ble_eq_true rfl⟩) ⟨PR_.blind, PR_.pre hF hK (hP.sub [] rfl) hS hA [] rfl⟩ rfl rfl hl.1 rfl (lv_room (Nat.le_of_ble_eq_true rfl)) dJ1_charAt_3b067_3 ⟨(Nat.le_of_ble_eq_true rfl), (Nat.le_of_ble_eq_true rfl)⟩) hP hS hA (fun H locs hP hS => ?_)
  refine W.eq (g2 := F0 m 6 ls []) rfl ?_
  refine lv_aload_n hx hb dJ1_charAt_3b067_6 rfl (lv_at hl 0 rfl) ?_
  refine lv_iload_n hx hb dJ1_charAt_3b067_7 rfl (lv_at hl 1 rfl) ?_
  refine va_tb (v := .int 61) hx hb ((fxst_ hF).1 3 (by decide)).2.2.2 hS (vin_ (by decide +kernel)) rfl dJ1_charAt_3b067_8 ?_
  refine lv_sipush (v := 255) hx hb dJ1_charAt_3b067_9 (by decide +kernel) ?_
  refine lv_iand hx hb dJ1_charAt_3b067_12 ?_
  refine kt_ (v := 61) (by decide +kernel) ?_
  refine lv_i2c (v := 61) hx hb dJ1_charAt_3b067_13 (by decide +kernel) ?_
  refine W.widen (k := 0) (n := 0) (Nat.le_of_ble_eq_true rfl) (Nat.le_of_ble_eq_true rfl) ?_
  exact W.zret (v := 61) hx hb hr rfl (QR_.mk hS (by rw [hM])) hS.2.2 dJ1_charAt_3b067_14
def F_J0_charAt_5068e_1_ad23  : Int32 := 61
set_option maxHeartbeats 4000000 in
set_option maxRecDepth 100000 in
theorem c_J0_charAt_5068e_1_ad23 (l : Launch) (hl0 : l.stackTraces = false) (D : va_G) (ad : Nat → Nat) (sz : Nat)  : Met l yJ0_charAt_5068e wsJ0_charAt_5068e ({ frames := 3, cells := 0, slots := 0, locals := 70 }) (PR_ D ad [] [] sz [.ref (ad 23), .int 1]) (QR_ (.int (F_J0_charAt_5068e_1_ad23)) (va_A [] sz)) 0 0 (va_A [] sz) := by
  refine Met.ofW (cc := cJ0_charAt_5068e) (maxL := 2) (ret := (some .char)) (by decide) rfl ?_
  intro p e s m args below meth c s₁ B hml hv
  obtain ⟨rfl, hsz, hP, hK, hF⟩ := hv
  have hx := B.exec
  have hb := B.bytes
  have hr := B.returns
  have hts := atoms_spec (ws := wsJ0_charAt_5068e) B.pre
  have hown : s.vm.findClass RJ0 = some m.cls := findClass_of_methodNamed B.named
  have hlocks := B.notSynchronized
  subst hsz
  generalize hAe : va_A [] s.heap.size = A at hF ⊢
  have hA : ∀ q : Nat, s.heap.size ≤ q → A q := fun q h => by rw [← hAe]; exact Or.inr h
  obtain ⟨H, hHe⟩ : ∃ H : Heap, H = s.heap := ⟨_, rfl⟩
  have hS : va_S A s.heap H [] := by rw [hHe]; exact va_S.rf
  have hP : va_P D vwCl [] H := by rw [hHe]; exact hP
  rw [← hHe]
  have hl := lv_entry [.ref (ad 23), .int 1] (n := 2) (Nat.le_of_ble_eq_true rfl)
  rw [lg_entry_eq]
  generalize (lg_sl [.ref (ad 23), .int 1] ++ List.replicate (2 - (lg_sl [.ref (ad 23), .int 1]).length) Slot.unset).toArray = ls at hl ⊢
  have hl : lv_has ls 2 [(0, .ref (ad 23)), (1, .int 1)] := hl
  have hM : F_J0_charAt_5068e_1_ad23 = 61 := rfl
  refine lv_aload_n hx hb dJ0_charAt_5068e_0 rfl (lv_at hl 0 rfl) ?_
  refine kr_ (va_runV (As := []) (rest := []) ⟨hx, hb, hml, hown, hts⟩ (c_J0_isLatin1_aae02_ad23 l hl0 D ad H.size) (cwV 0 hts gJ0_charAt_5068e_J0_isLatin1_aae02 rfl rfl rfl (by decide +kernel) ⟨Nat.le_of_ble_eq_true rfl, Nat.le_of_ble_eq_true rfl⟩) ⟨PR_.blind, vk_recv (fxst_ hF) (i := 3) (by decide) hS, PR_.pre hF hK (hP.sub [] rfl) hS hA [] rfl⟩ rfl rfl hl.1 rfl (lv_room (Nat.le_of_ble_eq_true rfl)) dJ0_charAt_5068e_1 ⟨(Nat.le_of_ble_eq_true rfl), (Nat.le_of_ble_eq_true rfl)⟩) hP hS hA (fun H locs hP hS => ?_)
  refine W.eq (g2 := F0 m 4 ls [.int 1]) rfl ?_
  refine lv_if_eq (tgt := 16) hx hb dJ0_charAt_5068e_4 (by decide) (fun c9 => absurd c9 (by decide +kernel)) (fun _ => ?_)
  refine lv_aload_n hx hb dJ0_charAt_5068e_7 rfl (lv_at hl 0 rfl) ?_
  refine vk_getf (o := "java/lang/String") (n := "value") (d := "[B") (q := ad 23) (v := .ref (ad 43)) hx hb ((fxst_ hF).1 3 (by decide)).2.2.1 hS hown (hts (.fieldLink RJ0 9 "java/lang/String" "value" "[B") (List.mem_of_getElem? (i := 1) (by decide +kernel))) (fun _ h9 => h9) dJ0_charAt_5068e_8 ?_
  refine lv_iload_n hx hb dJ0_charAt_5068e_11 rfl (lv_at hl 1 rfl) ?_
  refine kr_ (va_runS (As := [.ref (ad 43), .int 1]) (rest := []) ⟨hx, hb, hml, hown, hts⟩ (c_J1_charAt_3b067_1_ad43 l hl0 D ad H.size) (va_cwS 2 hts gJ0_charAt_5068e_J1_charAt_3b067 rfl rfl rfl (by decide +kernel) ⟨Nat.le_of_ble_eq_true rfl, Nat.le_of_ble_eq_true rfl⟩) ⟨PR_.blind, PR_.pre hF hK (hP.sub [] rfl) hS hA [] rfl⟩ rfl rfl hl.1 rfl (lv_room (Nat.le_of_ble_eq_true rfl)) dJ0_charAt_5068e_12 ⟨(Nat.le_of_ble_eq_true rfl), (Nat.le_of_ble_eq_true rfl)⟩) hP hS hA (fun H locs hP hS => ?_)
  refine W.eq (g2 := F0 m 15 ls [.int 61]) rfl ?_
  refine W.widen (k := 0) (n := 0) (Nat.le_of_ble_eq_true rfl) (Nat.le_of_ble_eq_true rfl) ?_
  exact W.zret (v := 61) hx hb hr rfl (QR_.mk hS (by rw [hM])) hS.2.2 dJ0_charAt_5068e_15
def F_J1_charAt_3b067_2_ad43  : Int32 := 49
set_option maxHeartbeats 4000000 in
set_option maxRecDepth 100000 in
theorem c_J1_charAt_3b067_2_ad43 (l : Launch) (hl0 : l.stackTraces = false) (D : va_G) (ad : Nat → Nat) (sz : Nat)  : Met l yJ1_charAt_3b067 wsJ1_charAt_3b067 ({ frames := 2, cells := 0, slots := 0, locals := 47 }) (PR_ D ad [] [] sz [.ref (ad 43), .int 2]) (QR_ (.int (F_J1_charAt_3b067_2_ad43)) (va_A [] sz)) 0 0 (va_A [] sz) := by
  refine Met.ofW (cc := cJ1_charAt_3b067) (maxL := 2) (ret := (some .char)) (by decide) rfl ?_
  intro p e s m args below meth c s₁ B hml hv
  obtain ⟨rfl, hsz, hP, hK, hF⟩ := hv
  have hx := B.exec
  have hb := B.bytes
  have hr := B.returns
  have hts := atoms_spec (ws := wsJ1_charAt_3b067) B.pre
  have hown : s.vm.findClass RJ1 = some m.cls := findClass_of_methodNamed B.named
  have hlocks := B.notSynchronized
  subst hsz
  generalize hAe : va_A [] s.heap.size = A at hF ⊢
  have hA : ∀ q : Nat, s.heap.size ≤ q → A q := fun q h => by rw [← hAe]; exact Or.inr h
  obtain ⟨H, hHe⟩ : ∃ H : Heap, H = s.heap := ⟨_, rfl⟩
  have hS : va_S A s.heap H [] := by rw [hHe]; exact va_S.rf
  have hP : va_P D vwCl [] H := by rw [hHe]; exact hP
  rw [← hHe]
  have hl := lv_entry [.ref (ad 43), .int 2] (n := 2) (Nat.le_of_ble_eq_true rfl)
  rw [lg_entry_eq]
  generalize (lg_sl [.ref (ad 43), .int 2] ++ List.replicate (2 - (lg_sl [.ref (ad 43), .int 2]).length) Slot.unset).toArray = ls at hl ⊢
  have hl : lv_has ls 2 [(0, .ref (ad 43)), (1, .int 2)] := hl
  have hM : F_J1_charAt_3b067_2_ad43 = 49 := rfl
  refine lv_iload_n hx hb dJ1_charAt_3b067_0 rfl (lv_at hl 1 rfl) ?_
  refine lv_aload_n hx hb dJ1_charAt_3b067_1 rfl (lv_at hl 0 rfl) ?_
  refine va_tlen (v := 3) hx hb ((fxst_ hF).1 3 (by decide)).2.2.2 hS rfl dJ1_charAt_3b067_2 ?_
  refine krv_ (va_runS (As := [.int 2, .int 3]) (rest := []) ⟨hx, hb, hml, hown, hts⟩ (c_J0_checkIndex_df160 l hl0 D ad H.size 2 3 (by decide +kernel) (by decide +kernel)) (va_cwS 2 hts gJ1_charAt_3b067_J0_checkIndex_df160 rfl rfl rfl (by decide +kernel) ⟨Nat.le_of_ble_eq_true rfl, Nat.le_of_ble_eq_true rfl⟩) ⟨PR_.blind, PR_.pre hF hK (hP.sub [] rfl) hS hA [] rfl⟩ rfl rfl hl.1 rfl (lv_room (Nat.le_of_ble_eq_true rfl)) dJ1_charAt_3b067_3 ⟨(Nat.le_of_ble_eq_true rfl), (Nat.le_of_ble_eq_true rfl)⟩) hP hS hA (fun H locs hP hS => ?_)
  refine W.eq (g2 := F0 m 6 ls []) rfl ?_
  refine lv_aload_n hx hb dJ1_charAt_3b067_6 rfl (lv_at hl 0 rfl) ?_
  refine lv_iload_n hx hb dJ1_charAt_3b067_7 rfl (lv_at hl 1 rfl) ?_
  refine va_tb (v := .int 49) hx hb ((fxst_ hF).1 3 (by decide)).2.2.2 hS (vin_ (by decide +kernel)) rfl dJ1_charAt_3b067_8 ?_
  refine lv_sipush (v := 255) hx hb dJ1_charAt_3b067_9 (by decide +kernel) ?_
  refine lv_iand hx hb dJ1_charAt_3b067_12 ?_
  refine kt_ (v := 49) (by decide +kernel) ?_
  refine lv_i2c (v := 49) hx hb dJ1_charAt_3b067_13 (by decide +kernel) ?_
  refine W.widen (k := 0) (n := 0) (Nat.le_of_ble_eq_true rfl) (Nat.le_of_ble_eq_true rfl) ?_
  exact W.zret (v := 49) hx hb hr rfl (QR_.mk hS (by rw [hM])) hS.2.2 dJ1_charAt_3b067_14
def F_J0_charAt_5068e_2_ad23  : Int32 := 49
set_option maxHeartbeats 4000000 in
set_option maxRecDepth 100000 in
theorem c_J0_charAt_5068e_2_ad23 (l : Launch) (hl0 : l.stackTraces = false) (D : va_G) (ad : Nat → Nat) (sz : Nat)  : Met l yJ0_charAt_5068e wsJ0_charAt_5068e ({ frames := 3, cells := 0, slots := 0, locals := 70 }) (PR_ D ad [] [] sz [.ref (ad 23), .int 2]) (QR_ (.int (F_J0_charAt_5068e_2_ad23)) (va_A [] sz)) 0 0 (va_A [] sz) := by
  refine Met.ofW (cc := cJ0_charAt_5068e) (maxL := 2) (ret := (some .char)) (by decide) rfl ?_
  intro p e s m args below meth c s₁ B hml hv
  obtain ⟨rfl, hsz, hP, hK, hF⟩ := hv
  have hx := B.exec
  have hb := B.bytes
  have hr := B.returns
  have hts := atoms_spec (ws := wsJ0_charAt_5068e) B.pre
  have hown : s.vm.findClass RJ0 = some m.cls := findClass_of_methodNamed B.named
  have hlocks := B.notSynchronized
  subst hsz
  generalize hAe : va_A [] s.heap.size = A at hF ⊢
  have hA : ∀ q : Nat, s.heap.size ≤ q → A q := fun q h => by rw [← hAe]; exact Or.inr h
  obtain ⟨H, hHe⟩ : ∃ H : Heap, H = s.heap := ⟨_, rfl⟩
  have hS : va_S A s.heap H [] := by rw [hHe]; exact va_S.rf
  have hP : va_P D vwCl [] H := by rw [hHe]; exact hP
  rw [← hHe]
  have hl := lv_entry [.ref (ad 23), .int 2] (n := 2) (Nat.le_of_ble_eq_true rfl)
  rw [lg_entry_eq]
  generalize (lg_sl [.ref (ad 23), .int 2] ++ List.replicate (2 - (lg_sl [.ref (ad 23), .int 2]).length) Slot.unset).toArray = ls at hl ⊢
  have hl : lv_has ls 2 [(0, .ref (ad 23)), (1, .int 2)] := hl
  have hM : F_J0_charAt_5068e_2_ad23 = 49 := rfl
  refine lv_aload_n hx hb dJ0_charAt_5068e_0 rfl (lv_at hl 0 rfl) ?_
  refine kr_ (va_runV (As := []) (rest := []) ⟨hx, hb, hml, hown, hts⟩ (c_J0_isLatin1_aae02_ad23 l hl0 D ad H.size) (cwV 0 hts gJ0_charAt_5068e_J0_isLatin1_aae02 rfl rfl rfl (by decide +kernel) ⟨Nat.le_of_ble_eq_true rfl, Nat.le_of_ble_eq_true rfl⟩) ⟨PR_.blind, vk_recv (fxst_ hF) (i := 3) (by decide) hS, PR_.pre hF hK (hP.sub [] rfl) hS hA [] rfl⟩ rfl rfl hl.1 rfl (lv_room (Nat.le_of_ble_eq_true rfl)) dJ0_charAt_5068e_1 ⟨(Nat.le_of_ble_eq_true rfl), (Nat.le_of_ble_eq_true rfl)⟩) hP hS hA (fun H locs hP hS => ?_)
  refine W.eq (g2 := F0 m 4 ls [.int 1]) rfl ?_
  refine lv_if_eq (tgt := 16) hx hb dJ0_charAt_5068e_4 (by decide) (fun c9 => absurd c9 (by decide +kernel)) (fun _ => ?_)
  refine lv_aload_n hx hb dJ0_charAt_5068e_7 rfl (lv_at hl 0 rfl) ?_
  refine vk_getf (o := "java/lang/String") (n := "value") (d := "[B") (q := ad 23) (v := .ref (ad 43)) hx hb ((fxst_ hF).1 3 (by decide)).2.2.1 hS hown (hts (.fieldLink RJ0 9 "java/lang/String" "value" "[B") (List.mem_of_getElem? (i := 1) (by decide +kernel))) (fun _ h9 => h9) dJ0_charAt_5068e_8 ?_
  refine lv_iload_n hx hb dJ0_charAt_5068e_11 rfl (lv_at hl 1 rfl) ?_
  refine kr_ (va_runS (As := [.ref (ad 43), .int 2]) (rest := []) ⟨hx, hb, hml, hown, hts⟩ (c_J1_charAt_3b067_2_ad43 l hl0 D ad H.size) (va_cwS 2 hts gJ0_charAt_5068e_J1_charAt_3b067 rfl rfl rfl (by decide +kernel) ⟨Nat.le_of_ble_eq_true rfl, Nat.le_of_ble_eq_true rfl⟩) ⟨PR_.blind, PR_.pre hF hK (hP.sub [] rfl) hS hA [] rfl⟩ rfl rfl hl.1 rfl (lv_room (Nat.le_of_ble_eq_true rfl)) dJ0_charAt_5068e_12 ⟨(Nat.le_of_ble_eq_true rfl), (Nat.le_of_ble_eq_true rfl)⟩) hP hS hA (fun H locs hP hS => ?_)
  refine W.eq (g2 := F0 m 15 ls [.int 49]) rfl ?_
  refine W.widen (k := 0) (n := 0) (Nat.le_of_ble_eq_true rfl) (Nat.le_of_ble_eq_true rfl) ?_
  exact W.zret (v := 49) hx hb hr rfl (QR_.mk hS (by rw [hM])) hS.2.2 dJ0_charAt_5068e_15
def F_J0_coder_7d493_ad24  : Int32 := 0
set_option maxHeartbeats 4000000 in
set_option maxRecDepth 100000 in
theorem c_J0_coder_7d493_ad24 (l : Launch) (hl0 : l.stackTraces = false) (D : va_G) (ad : Nat → Nat) (sz : Nat)  : Met l yJ0_coder_7d493 wsJ0_coder_7d493 ({ frames := 0, cells := 0, slots := 0, locals := 0 }) (PR_ D ad [] [] sz [.ref (ad 24)]) (QR_ (.int (F_J0_coder_7d493_ad24)) (va_A [] sz)) 0 0 (va_A [] sz) := by
  refine Met.ofW (cc := cJ0_coder_7d493) (maxL := 1) (ret := (some .byte)) (by decide) rfl ?_
  intro p e s m args below meth c s₁ B hml hv
  obtain ⟨rfl, hsz, hP, hK, hF⟩ := hv
  have hx := B.exec
  have hb := B.bytes
  have hr := B.returns
  have hts := atoms_spec (ws := wsJ0_coder_7d493) B.pre
  have hown : s.vm.findClass RJ0 = some m.cls := findClass_of_methodNamed B.named
  have hlocks := B.notSynchronized
  subst hsz
  generalize hAe : va_A [] s.heap.size = A at hF ⊢
  have hA : ∀ q : Nat, s.heap.size ≤ q → A q := fun q h => by rw [← hAe]; exact Or.inr h
  obtain ⟨H, hHe⟩ : ∃ H : Heap, H = s.heap := ⟨_, rfl⟩
  have hS : va_S A s.heap H [] := by rw [hHe]; exact va_S.rf
  have hP : va_P D vwCl [] H := by rw [hHe]; exact hP
  rw [← hHe]
  have hl := lv_entry [.ref (ad 24)] (n := 1) (Nat.le_of_ble_eq_true rfl)
  rw [lg_entry_eq]
  generalize (lg_sl [.ref (ad 24)] ++ List.replicate (1 - (lg_sl [.ref (ad 24)]).length) Slot.unset).toArray = ls at hl ⊢
  have hl : lv_has ls 1 [(0, .ref (ad 24))] := hl
  have hM : F_J0_coder_7d493_ad24 = 0 := rfl
  refine va_gets (C := "java/lang/String") (n := "COMPACT_STRINGS") (d := "Z") (own := RJ0) (ref := "java/lang/String") (v := .int 1) hx hb hF.2.2.2.1 hS hown (hts (.fieldLink RJ0 38 "java/lang/String" "COMPACT_STRINGS" "Z") (List.mem_of_getElem? (i := 1) (by decide +kernel))) (fun _ h9 => h9) dJ0_coder_7d493_0 ?_
  refine lv_if_eq (tgt := 13) hx hb dJ0_coder_7d493_3 (by decide) (fun c9 => absurd c9 (by decide +kernel)) (fun _ => ?_)
  refine lv_aload_n hx hb dJ0_coder_7d493_6 rfl (lv_at hl 0 rfl) ?_
  refine vk_getf (o := "java/lang/String") (n := "coder") (d := "B") (q := ad 24) (v := .int 0) hx hb ((fxst_ hF).1 4 (by decide)).2.1 hS hown (hts (.fieldLink RJ0 15 "java/lang/String" "coder" "B") (List.mem_of_getElem? (i := 2) (by decide +kernel))) (fun _ h9 => h9) dJ0_coder_7d493_7 ?_
  refine lv_goto (tgt := 14) hx hb dJ0_coder_7d493_10 (by decide) ?_
  refine W.widen (k := 0) (n := 0) (Nat.le_of_ble_eq_true rfl) (Nat.le_of_ble_eq_true rfl) ?_
  exact W.zret (v := 0) hx hb hr rfl (QR_.mk hS (by rw [hM])) hS.2.2 dJ0_coder_7d493_14
def F_J0_length_8abf5_ad24  : Int32 := 2
set_option maxHeartbeats 4000000 in
set_option maxRecDepth 100000 in
theorem c_J0_length_8abf5_ad24 (l : Launch) (hl0 : l.stackTraces = false) (D : va_G) (ad : Nat → Nat) (sz : Nat)  : Met l yJ0_length_8abf5 wsJ0_length_8abf5 ({ frames := 1, cells := 0, slots := 0, locals := 22 }) (PR_ D ad [] [] sz [.ref (ad 24)]) (QR_ (.int (F_J0_length_8abf5_ad24)) (va_A [] sz)) 0 0 (va_A [] sz) := by
  refine Met.ofW (cc := cJ0_length_8abf5) (maxL := 1) (ret := (some .int)) (by decide) rfl ?_
  intro p e s m args below meth c s₁ B hml hv
  obtain ⟨rfl, hsz, hP, hK, hF⟩ := hv
  have hx := B.exec
  have hb := B.bytes
  have hr := B.returns
  have hts := atoms_spec (ws := wsJ0_length_8abf5) B.pre
  have hown : s.vm.findClass RJ0 = some m.cls := findClass_of_methodNamed B.named
  have hlocks := B.notSynchronized
  subst hsz
  generalize hAe : va_A [] s.heap.size = A at hF ⊢
  have hA : ∀ q : Nat, s.heap.size ≤ q → A q := fun q h => by rw [← hAe]; exact Or.inr h
  obtain ⟨H, hHe⟩ : ∃ H : Heap, H = s.heap := ⟨_, rfl⟩
  have hS : va_S A s.heap H [] := by rw [hHe]; exact va_S.rf
  have hP : va_P D vwCl [] H := by rw [hHe]; exact hP
  rw [← hHe]
  have hl := lv_entry [.ref (ad 24)] (n := 1) (Nat.le_of_ble_eq_true rfl)
  rw [lg_entry_eq]
  generalize (lg_sl [.ref (ad 24)] ++ List.replicate (1 - (lg_sl [.ref (ad 24)]).length) Slot.unset).toArray = ls at hl ⊢
  have hl : lv_has ls 1 [(0, .ref (ad 24))] := hl
  have hM : F_J0_length_8abf5_ad24 = 2 := rfl
  refine lv_aload_n hx hb dJ0_length_8abf5_0 rfl (lv_at hl 0 rfl) ?_
  refine vk_getf (o := "java/lang/String") (n := "value") (d := "[B") (q := ad 24) (v := .ref (ad 44)) hx hb ((fxst_ hF).1 4 (by decide)).2.2.1 hS hown (hts (.fieldLink RJ0 9 "java/lang/String" "value" "[B") (List.mem_of_getElem? (i := 1) (by decide +kernel))) (fun _ h9 => h9) dJ0_length_8abf5_1 ?_
  refine va_tlen (v := 2) hx hb ((fxst_ hF).1 4 (by decide)).2.2.2 hS rfl dJ0_length_8abf5_4 ?_
  refine lv_aload_n hx hb dJ0_length_8abf5_5 rfl (lv_at hl 0 rfl) ?_
  refine kr_ (va_runV (As := []) (rest := [.int 2]) ⟨hx, hb, hml, hown, hts⟩ (c_J0_coder_7d493_ad24 l hl0 D ad H.size) (cwV 0 hts gJ0_length_8abf5_J0_coder_7d493 rfl rfl rfl (by decide +kernel) ⟨Nat.le_of_ble_eq_true rfl, Nat.le_of_ble_eq_true rfl⟩) ⟨PR_.blind, vk_recv (fxst_ hF) (i := 4) (by decide) hS, PR_.pre hF hK (hP.sub [] rfl) hS hA [] rfl⟩ rfl rfl hl.1 rfl (lv_room (Nat.le_of_ble_eq_true rfl)) dJ0_length_8abf5_6 ⟨(Nat.le_of_ble_eq_true rfl), (Nat.le_of_ble_eq_true rfl)⟩) hP hS hA (fun H locs hP hS => ?_)
  refine W.eq (g2 := F0 m 9 ls [.int 0, .int 2]) rfl ?_
  refine lv_ishr hx hb dJ0_length_8abf5_9 ?_
  refine kt_ (v := 2) (by decide +kernel) ?_
  refine W.widen (k := 0) (n := 0) (Nat.le_of_ble_eq_true rfl) (Nat.le_of_ble_eq_true rfl) ?_
  exact W.iret (v := 2) hx hb hr (QR_.mk hS (by rw [hM])) hS.2.2 dJ0_length_8abf5_10
def F_J0_isLatin1_aae02_ad24  : Int32 := 1
set_option maxHeartbeats 4000000 in
set_option maxRecDepth 100000 in
theorem c_J0_isLatin1_aae02_ad24 (l : Launch) (hl0 : l.stackTraces = false) (D : va_G) (ad : Nat → Nat) (sz : Nat)  : Met l yJ0_isLatin1_aae02 wsJ0_isLatin1_aae02 ({ frames := 0, cells := 0, slots := 0, locals := 0 }) (PR_ D ad [] [] sz [.ref (ad 24)]) (QR_ (.int (F_J0_isLatin1_aae02_ad24)) (va_A [] sz)) 0 0 (va_A [] sz) := by
  refine Met.ofW (cc := cJ0_isLatin1_aae02) (maxL := 1) (ret := (some .boolean)) (by decide) rfl ?_
  intro p e s m args below meth c s₁ B hml hv
  obtain ⟨rfl, hsz, hP, hK, hF⟩ := hv
  have hx := B.exec
  have hb := B.bytes
  have hr := B.returns
  have hts := atoms_spec (ws := wsJ0_isLatin1_aae02) B.pre
  have hown : s.vm.findClass RJ0 = some m.cls := findClass_of_methodNamed B.named
  have hlocks := B.notSynchronized
  subst hsz
  generalize hAe : va_A [] s.heap.size = A at hF ⊢
  have hA : ∀ q : Nat, s.heap.size ≤ q → A q := fun q h => by rw [← hAe]; exact Or.inr h
  obtain ⟨H, hHe⟩ : ∃ H : Heap, H = s.heap := ⟨_, rfl⟩
  have hS : va_S A s.heap H [] := by rw [hHe]; exact va_S.rf
  have hP : va_P D vwCl [] H := by rw [hHe]; exact hP
  rw [← hHe]
  have hl := lv_entry [.ref (ad 24)] (n := 1) (Nat.le_of_ble_eq_true rfl)
  rw [lg_entry_eq]
  generalize (lg_sl [.ref (ad 24)] ++ List.replicate (1 - (lg_sl [.ref (ad 24)]).length) Slot.unset).toArray = ls at hl ⊢
  have hl : lv_has ls 1 [(0, .ref (ad 24))] := hl
  have hM : F_J0_isLatin1_aae02_ad24 = 1 := rfl
  refine va_gets (C := "java/lang/String") (n := "COMPACT_STRINGS") (d := "Z") (own := RJ0) (ref := "java/lang/String") (v := .int 1) hx hb hF.2.2.2.1 hS hown (hts (.fieldLink RJ0 38 "java/lang/String" "COMPACT_STRINGS" "Z") (List.mem_of_getElem? (i := 1) (by decide +kernel))) (fun _ h9 => h9) dJ0_isLatin1_aae02_0 ?_
  refine lv_if_eq (tgt := 17) hx hb dJ0_isLatin1_aae02_3 (by decide) (fun c9 => absurd c9 (by decide +kernel)) (fun _ => ?_)
  refine lv_aload_n hx hb dJ0_isLatin1_aae02_6 rfl (lv_at hl 0 rfl) ?_
  refine vk_getf (o := "java/lang/String") (n := "coder") (d := "B") (q := ad 24) (v := .int 0) hx hb ((fxst_ hF).1 4 (by decide)).2.1 hS hown (hts (.fieldLink RJ0 15 "java/lang/String" "coder" "B") (List.mem_of_getElem? (i := 2) (by decide +kernel))) (fun _ h9 => h9) dJ0_isLatin1_aae02_7 ?_
  refine lv_if_ne (tgt := 17) hx hb dJ0_isLatin1_aae02_10 (by decide) (fun c9 => absurd (by decide +kernel) c9) (fun _ => ?_)
  refine lv_iconst (v := 1) hx hb dJ0_isLatin1_aae02_13 (by decide) ?_
  refine lv_goto (tgt := 18) hx hb dJ0_isLatin1_aae02_14 (by decide) ?_
  refine W.widen (k := 0) (n := 0) (Nat.le_of_ble_eq_true rfl) (Nat.le_of_ble_eq_true rfl) ?_
  exact W.zret (v := 1) hx hb hr rfl (QR_.mk hS (by rw [hM])) hS.2.2 dJ0_isLatin1_aae02_18
def F_J1_charAt_3b067_0_ad44  : Int32 := 48
set_option maxHeartbeats 4000000 in
set_option maxRecDepth 100000 in
theorem c_J1_charAt_3b067_0_ad44 (l : Launch) (hl0 : l.stackTraces = false) (D : va_G) (ad : Nat → Nat) (sz : Nat)  : Met l yJ1_charAt_3b067 wsJ1_charAt_3b067 ({ frames := 2, cells := 0, slots := 0, locals := 47 }) (PR_ D ad [] [] sz [.ref (ad 44), .int 0]) (QR_ (.int (F_J1_charAt_3b067_0_ad44)) (va_A [] sz)) 0 0 (va_A [] sz) := by
  refine Met.ofW (cc := cJ1_charAt_3b067) (maxL := 2) (ret := (some .char)) (by decide) rfl ?_
  intro p e s m args below meth c s₁ B hml hv
  obtain ⟨rfl, hsz, hP, hK, hF⟩ := hv
  have hx := B.exec
  have hb := B.bytes
  have hr := B.returns
  have hts := atoms_spec (ws := wsJ1_charAt_3b067) B.pre
  have hown : s.vm.findClass RJ1 = some m.cls := findClass_of_methodNamed B.named
  have hlocks := B.notSynchronized
  subst hsz
  generalize hAe : va_A [] s.heap.size = A at hF ⊢
  have hA : ∀ q : Nat, s.heap.size ≤ q → A q := fun q h => by rw [← hAe]; exact Or.inr h
  obtain ⟨H, hHe⟩ : ∃ H : Heap, H = s.heap := ⟨_, rfl⟩
  have hS : va_S A s.heap H [] := by rw [hHe]; exact va_S.rf
  have hP : va_P D vwCl [] H := by rw [hHe]; exact hP
  rw [← hHe]
  have hl := lv_entry [.ref (ad 44), .int 0] (n := 2) (Nat.le_of_ble_eq_true rfl)
  rw [lg_entry_eq]
  generalize (lg_sl [.ref (ad 44), .int 0] ++ List.replicate (2 - (lg_sl [.ref (ad 44), .int 0]).length) Slot.unset).toArray = ls at hl ⊢
  have hl : lv_has ls 2 [(0, .ref (ad 44)), (1, .int 0)] := hl
  have hM : F_J1_charAt_3b067_0_ad44 = 48 := rfl
  refine lv_iload_n hx hb dJ1_charAt_3b067_0 rfl (lv_at hl 1 rfl) ?_
  refine lv_aload_n hx hb dJ1_charAt_3b067_1 rfl (lv_at hl 0 rfl) ?_
  refine va_tlen (v := 2) hx hb ((fxst_ hF).1 4 (by decide)).2.2.2 hS rfl dJ1_charAt_3b067_2 ?_
  refine krv_ (va_runS (As := [.int 0, .int 2]) (rest := []) ⟨hx, hb, hml, hown, hts⟩ (c_J0_checkIndex_df160 l hl0 D ad H.size 0 2 (by decide +kernel) (by decide +kernel)) (va_cwS 2 hts gJ1_charAt_3b067_J0_checkIndex_df160 rfl rfl rfl (by decide +kernel) ⟨Nat.le_of_ble_eq_true rfl, Nat.le_of_ble_eq_true rfl⟩) ⟨PR_.blind, PR_.pre hF hK (hP.sub [] rfl) hS hA [] rfl⟩ rfl rfl hl.1 rfl (lv_room (Nat.le_of_ble_eq_true rfl)) dJ1_charAt_3b067_3 ⟨(Nat.le_of_ble_eq_true rfl), (Nat.le_of_ble_eq_true rfl)⟩) hP hS hA (fun H locs hP hS => ?_)
  refine W.eq (g2 := F0 m 6 ls []) rfl ?_
  refine lv_aload_n hx hb dJ1_charAt_3b067_6 rfl (lv_at hl 0 rfl) ?_
  refine lv_iload_n hx hb dJ1_charAt_3b067_7 rfl (lv_at hl 1 rfl) ?_
  refine va_tb (v := .int 48) hx hb ((fxst_ hF).1 4 (by decide)).2.2.2 hS (vin_ (by decide +kernel)) rfl dJ1_charAt_3b067_8 ?_
  refine lv_sipush (v := 255) hx hb dJ1_charAt_3b067_9 (by decide +kernel) ?_
  refine lv_iand hx hb dJ1_charAt_3b067_12 ?_
  refine kt_ (v := 48) (by decide +kernel) ?_
  refine lv_i2c (v := 48) hx hb dJ1_charAt_3b067_13 (by decide +kernel) ?_
  refine W.widen (k := 0) (n := 0) (Nat.le_of_ble_eq_true rfl) (Nat.le_of_ble_eq_true rfl) ?_
  exact W.zret (v := 48) hx hb hr rfl (QR_.mk hS (by rw [hM])) hS.2.2 dJ1_charAt_3b067_14
def F_J0_charAt_5068e_0_ad24  : Int32 := 48
set_option maxHeartbeats 4000000 in
set_option maxRecDepth 100000 in
theorem c_J0_charAt_5068e_0_ad24 (l : Launch) (hl0 : l.stackTraces = false) (D : va_G) (ad : Nat → Nat) (sz : Nat)  : Met l yJ0_charAt_5068e wsJ0_charAt_5068e ({ frames := 3, cells := 0, slots := 0, locals := 70 }) (PR_ D ad [] [] sz [.ref (ad 24), .int 0]) (QR_ (.int (F_J0_charAt_5068e_0_ad24)) (va_A [] sz)) 0 0 (va_A [] sz) := by
  refine Met.ofW (cc := cJ0_charAt_5068e) (maxL := 2) (ret := (some .char)) (by decide) rfl ?_
  intro p e s m args below meth c s₁ B hml hv
  obtain ⟨rfl, hsz, hP, hK, hF⟩ := hv
  have hx := B.exec
  have hb := B.bytes
  have hr := B.returns
  have hts := atoms_spec (ws := wsJ0_charAt_5068e) B.pre
  have hown : s.vm.findClass RJ0 = some m.cls := findClass_of_methodNamed B.named
  have hlocks := B.notSynchronized
  subst hsz
  generalize hAe : va_A [] s.heap.size = A at hF ⊢
  have hA : ∀ q : Nat, s.heap.size ≤ q → A q := fun q h => by rw [← hAe]; exact Or.inr h
  obtain ⟨H, hHe⟩ : ∃ H : Heap, H = s.heap := ⟨_, rfl⟩
  have hS : va_S A s.heap H [] := by rw [hHe]; exact va_S.rf
  have hP : va_P D vwCl [] H := by rw [hHe]; exact hP
  rw [← hHe]
  have hl := lv_entry [.ref (ad 24), .int 0] (n := 2) (Nat.le_of_ble_eq_true rfl)
  rw [lg_entry_eq]
  generalize (lg_sl [.ref (ad 24), .int 0] ++ List.replicate (2 - (lg_sl [.ref (ad 24), .int 0]).length) Slot.unset).toArray = ls at hl ⊢
  have hl : lv_has ls 2 [(0, .ref (ad 24)), (1, .int 0)] := hl
  have hM : F_J0_charAt_5068e_0_ad24 = 48 := rfl
  refine lv_aload_n hx hb dJ0_charAt_5068e_0 rfl (lv_at hl 0 rfl) ?_
  refine kr_ (va_runV (As := []) (rest := []) ⟨hx, hb, hml, hown, hts⟩ (c_J0_isLatin1_aae02_ad24 l hl0 D ad H.size) (cwV 0 hts gJ0_charAt_5068e_J0_isLatin1_aae02 rfl rfl rfl (by decide +kernel) ⟨Nat.le_of_ble_eq_true rfl, Nat.le_of_ble_eq_true rfl⟩) ⟨PR_.blind, vk_recv (fxst_ hF) (i := 4) (by decide) hS, PR_.pre hF hK (hP.sub [] rfl) hS hA [] rfl⟩ rfl rfl hl.1 rfl (lv_room (Nat.le_of_ble_eq_true rfl)) dJ0_charAt_5068e_1 ⟨(Nat.le_of_ble_eq_true rfl), (Nat.le_of_ble_eq_true rfl)⟩) hP hS hA (fun H locs hP hS => ?_)
  refine W.eq (g2 := F0 m 4 ls [.int 1]) rfl ?_
  refine lv_if_eq (tgt := 16) hx hb dJ0_charAt_5068e_4 (by decide) (fun c9 => absurd c9 (by decide +kernel)) (fun _ => ?_)
  refine lv_aload_n hx hb dJ0_charAt_5068e_7 rfl (lv_at hl 0 rfl) ?_
  refine vk_getf (o := "java/lang/String") (n := "value") (d := "[B") (q := ad 24) (v := .ref (ad 44)) hx hb ((fxst_ hF).1 4 (by decide)).2.2.1 hS hown (hts (.fieldLink RJ0 9 "java/lang/String" "value" "[B") (List.mem_of_getElem? (i := 1) (by decide +kernel))) (fun _ h9 => h9) dJ0_charAt_5068e_8 ?_
  refine lv_iload_n hx hb dJ0_charAt_5068e_11 rfl (lv_at hl 1 rfl) ?_
  refine kr_ (va_runS (As := [.ref (ad 44), .int 0]) (rest := []) ⟨hx, hb, hml, hown, hts⟩ (c_J1_charAt_3b067_0_ad44 l hl0 D ad H.size) (va_cwS 2 hts gJ0_charAt_5068e_J1_charAt_3b067 rfl rfl rfl (by decide +kernel) ⟨Nat.le_of_ble_eq_true rfl, Nat.le_of_ble_eq_true rfl⟩) ⟨PR_.blind, PR_.pre hF hK (hP.sub [] rfl) hS hA [] rfl⟩ rfl rfl hl.1 rfl (lv_room (Nat.le_of_ble_eq_true rfl)) dJ0_charAt_5068e_12 ⟨(Nat.le_of_ble_eq_true rfl), (Nat.le_of_ble_eq_true rfl)⟩) hP hS hA (fun H locs hP hS => ?_)
  refine W.eq (g2 := F0 m 15 ls [.int 48]) rfl ?_
  refine W.widen (k := 0) (n := 0) (Nat.le_of_ble_eq_true rfl) (Nat.le_of_ble_eq_true rfl) ?_
  exact W.zret (v := 48) hx hb hr rfl (QR_.mk hS (by rw [hM])) hS.2.2 dJ0_charAt_5068e_15
def F_J1_charAt_3b067_1_ad44  : Int32 := 63
set_option maxHeartbeats 4000000 in
set_option maxRecDepth 100000 in
theorem c_J1_charAt_3b067_1_ad44 (l : Launch) (hl0 : l.stackTraces = false) (D : va_G) (ad : Nat → Nat) (sz : Nat)  : Met l yJ1_charAt_3b067 wsJ1_charAt_3b067 ({ frames := 2, cells := 0, slots := 0, locals := 47 }) (PR_ D ad [] [] sz [.ref (ad 44), .int 1]) (QR_ (.int (F_J1_charAt_3b067_1_ad44)) (va_A [] sz)) 0 0 (va_A [] sz) := by
  refine Met.ofW (cc := cJ1_charAt_3b067) (maxL := 2) (ret := (some .char)) (by decide) rfl ?_
  intro p e s m args below meth c s₁ B hml hv
  obtain ⟨rfl, hsz, hP, hK, hF⟩ := hv
  have hx := B.exec
  have hb := B.bytes
  have hr := B.returns
  have hts := atoms_spec (ws := wsJ1_charAt_3b067) B.pre
  have hown : s.vm.findClass RJ1 = some m.cls := findClass_of_methodNamed B.named
  have hlocks := B.notSynchronized
  subst hsz
  generalize hAe : va_A [] s.heap.size = A at hF ⊢
  have hA : ∀ q : Nat, s.heap.size ≤ q → A q := fun q h => by rw [← hAe]; exact Or.inr h
  obtain ⟨H, hHe⟩ : ∃ H : Heap, H = s.heap := ⟨_, rfl⟩
  have hS : va_S A s.heap H [] := by rw [hHe]; exact va_S.rf
  have hP : va_P D vwCl [] H := by rw [hHe]; exact hP
  rw [← hHe]
  have hl := lv_entry [.ref (ad 44), .int 1] (n := 2) (Nat.le_of_ble_eq_true rfl)
  rw [lg_entry_eq]
  generalize (lg_sl [.ref (ad 44), .int 1] ++ List.replicate (2 - (lg_sl [.ref (ad 44), .int 1]).length) Slot.unset).toArray = ls at hl ⊢
  have hl : lv_has ls 2 [(0, .ref (ad 44)), (1, .int 1)] := hl
  have hM : F_J1_charAt_3b067_1_ad44 = 63 := rfl
  refine lv_iload_n hx hb dJ1_charAt_3b067_0 rfl (lv_at hl 1 rfl) ?_
  refine lv_aload_n hx hb dJ1_charAt_3b067_1 rfl (lv_at hl 0 rfl) ?_
  refine va_tlen (v := 2) hx hb ((fxst_ hF).1 4 (by decide)).2.2.2 hS rfl dJ1_charAt_3b067_2 ?_
  refine krv_ (va_runS (As := [.int 1, .int 2]) (rest := []) ⟨hx, hb, hml, hown, hts⟩ (c_J0_checkIndex_df160 l hl0 D ad H.size 1 2 (by decide +kernel) (by decide +kernel)) (va_cwS 2 hts gJ1_charAt_3b067_J0_checkIndex_df160 rfl rfl rfl (by decide +kernel) ⟨Nat.le_of_ble_eq_true rfl, Nat.le_of_ble_eq_true rfl⟩) ⟨PR_.blind, PR_.pre hF hK (hP.sub [] rfl) hS hA [] rfl⟩ rfl rfl hl.1 rfl (lv_room (Nat.le_of_ble_eq_true rfl)) dJ1_charAt_3b067_3 ⟨(Nat.le_of_ble_eq_true rfl), (Nat.le_of_ble_eq_true rfl)⟩) hP hS hA (fun H locs hP hS => ?_)
  refine W.eq (g2 := F0 m 6 ls []) rfl ?_
  refine lv_aload_n hx hb dJ1_charAt_3b067_6 rfl (lv_at hl 0 rfl) ?_
  refine lv_iload_n hx hb dJ1_charAt_3b067_7 rfl (lv_at hl 1 rfl) ?_
  refine va_tb (v := .int 63) hx hb ((fxst_ hF).1 4 (by decide)).2.2.2 hS (vin_ (by decide +kernel)) rfl dJ1_charAt_3b067_8 ?_
  refine lv_sipush (v := 255) hx hb dJ1_charAt_3b067_9 (by decide +kernel) ?_
  refine lv_iand hx hb dJ1_charAt_3b067_12 ?_
  refine kt_ (v := 63) (by decide +kernel) ?_
  refine lv_i2c (v := 63) hx hb dJ1_charAt_3b067_13 (by decide +kernel) ?_
  refine W.widen (k := 0) (n := 0) (Nat.le_of_ble_eq_true rfl) (Nat.le_of_ble_eq_true rfl) ?_
  exact W.zret (v := 63) hx hb hr rfl (QR_.mk hS (by rw [hM])) hS.2.2 dJ1_charAt_3b067_14
def F_J0_charAt_5068e_1_ad24  : Int32 := 63
set_option maxHeartbeats 4000000 in
set_option maxRecDepth 100000 in
theorem c_J0_charAt_5068e_1_ad24 (l : Launch) (hl0 : l.stackTraces = false) (D : va_G) (ad : Nat → Nat) (sz : Nat)  : Met l yJ0_charAt_5068e wsJ0_charAt_5068e ({ frames := 3, cells := 0, slots := 0, locals := 70 }) (PR_ D ad [] [] sz [.ref (ad 24), .int 1]) (QR_ (.int (F_J0_charAt_5068e_1_ad24)) (va_A [] sz)) 0 0 (va_A [] sz) := by
  refine Met.ofW (cc := cJ0_charAt_5068e) (maxL := 2) (ret := (some .char)) (by decide) rfl ?_
  intro p e s m args below meth c s₁ B hml hv
  obtain ⟨rfl, hsz, hP, hK, hF⟩ := hv
  have hx := B.exec
  have hb := B.bytes
  have hr := B.returns
  have hts := atoms_spec (ws := wsJ0_charAt_5068e) B.pre
  have hown : s.vm.findClass RJ0 = some m.cls := findClass_of_methodNamed B.named
  have hlocks := B.notSynchronized
  subst hsz
  generalize hAe : va_A [] s.heap.size = A at hF ⊢
  have hA : ∀ q : Nat, s.heap.size ≤ q → A q := fun q h => by rw [← hAe]; exact Or.inr h
  obtain ⟨H, hHe⟩ : ∃ H : Heap, H = s.heap := ⟨_, rfl⟩
  have hS : va_S A s.heap H [] := by rw [hHe]; exact va_S.rf
  have hP : va_P D vwCl [] H := by rw [hHe]; exact hP
  rw [← hHe]
  have hl := lv_entry [.ref (ad 24), .int 1] (n := 2) (Nat.le_of_ble_eq_true rfl)
  rw [lg_entry_eq]
  generalize (lg_sl [.ref (ad 24), .int 1] ++ List.replicate (2 - (lg_sl [.ref (ad 24), .int 1]).length) Slot.unset).toArray = ls at hl ⊢
  have hl : lv_has ls 2 [(0, .ref (ad 24)), (1, .int 1)] := hl
  have hM : F_J0_charAt_5068e_1_ad24 = 63 := rfl
  refine lv_aload_n hx hb dJ0_charAt_5068e_0 rfl (lv_at hl 0 rfl) ?_
  refine kr_ (va_runV (As := []) (rest := []) ⟨hx, hb, hml, hown, hts⟩ (c_J0_isLatin1_aae02_ad24 l hl0 D ad H.size) (cwV 0 hts gJ0_charAt_5068e_J0_isLatin1_aae02 rfl rfl rfl (by decide +kernel) ⟨Nat.le_of_ble_eq_true rfl, Nat.le_of_ble_eq_true rfl⟩) ⟨PR_.blind, vk_recv (fxst_ hF) (i := 4) (by decide) hS, PR_.pre hF hK (hP.sub [] rfl) hS hA [] rfl⟩ rfl rfl hl.1 rfl (lv_room (Nat.le_of_ble_eq_true rfl)) dJ0_charAt_5068e_1 ⟨(Nat.le_of_ble_eq_true rfl), (Nat.le_of_ble_eq_true rfl)⟩) hP hS hA (fun H locs hP hS => ?_)
  refine W.eq (g2 := F0 m 4 ls [.int 1]) rfl ?_
  refine lv_if_eq (tgt := 16) hx hb dJ0_charAt_5068e_4 (by decide) (fun c9 => absurd c9 (by decide +kernel)) (fun _ => ?_)
  refine lv_aload_n hx hb dJ0_charAt_5068e_7 rfl (lv_at hl 0 rfl) ?_
  refine vk_getf (o := "java/lang/String") (n := "value") (d := "[B") (q := ad 24) (v := .ref (ad 44)) hx hb ((fxst_ hF).1 4 (by decide)).2.2.1 hS hown (hts (.fieldLink RJ0 9 "java/lang/String" "value" "[B") (List.mem_of_getElem? (i := 1) (by decide +kernel))) (fun _ h9 => h9) dJ0_charAt_5068e_8 ?_
  refine lv_iload_n hx hb dJ0_charAt_5068e_11 rfl (lv_at hl 1 rfl) ?_
  refine kr_ (va_runS (As := [.ref (ad 44), .int 1]) (rest := []) ⟨hx, hb, hml, hown, hts⟩ (c_J1_charAt_3b067_1_ad44 l hl0 D ad H.size) (va_cwS 2 hts gJ0_charAt_5068e_J1_charAt_3b067 rfl rfl rfl (by decide +kernel) ⟨Nat.le_of_ble_eq_true rfl, Nat.le_of_ble_eq_true rfl⟩) ⟨PR_.blind, PR_.pre hF hK (hP.sub [] rfl) hS hA [] rfl⟩ rfl rfl hl.1 rfl (lv_room (Nat.le_of_ble_eq_true rfl)) dJ0_charAt_5068e_12 ⟨(Nat.le_of_ble_eq_true rfl), (Nat.le_of_ble_eq_true rfl)⟩) hP hS hA (fun H locs hP hS => ?_)
  refine W.eq (g2 := F0 m 15 ls [.int 63]) rfl ?_
  refine W.widen (k := 0) (n := 0) (Nat.le_of_ble_eq_true rfl) (Nat.le_of_ble_eq_true rfl) ?_
  exact W.zret (v := 63) hx hb hr rfl (QR_.mk hS (by rw [hM])) hS.2.2 dJ0_charAt_5068e_15
def F_X3_readPart_63 (sg : Nat → Int32) (ln : Int32) (pl : Int32) (nu : Nat → Int32) : Int32 × (Nat → Int32) × Int32 := (if pl < 0 then (1, nu, pl) else (if ln ≤ pl then (1, nu, pl) else (if (sg (ix pl)) < 48 then (1, nu, pl) else (if 57 < (sg (ix pl)) then (1, nu, pl) else (1, (upd nu 0 ((((nu 0) * 10) + (sg (ix pl))) - 48)), (pl + 1))))))
set_option maxHeartbeats 4000000 in
set_option maxRecDepth 100000 in
theorem c_X3_readPart_63 (l : Launch) (hl0 : l.stackTraces = false) (D : va_G) (ad : Nat → Nat) (sz : Nat) (h_sg : Nat) (h_nu : Nat) (h_T : Nat) (k_sg : ClassId) (k_nu : ClassId) (h_T_3 : Value) (sg : Nat → Int32) (nu : Nat → Int32) (ln : Int32) (pl : Int32) (hy0 : 0 ≤ ln.toInt) (hy1 : ln.toInt ≤ 60) (hy2 : 0 ≤ pl.toInt) (hy3 : pl.toInt ≤ 200) : Met l yX3_readPart wsX3_readPart ({ frames := 0, cells := 0, slots := 0, locals := 0 }) (PC_ D ad [(h_sg, .inl (k_sg, 60, .inl sg)), (h_nu, .inl (k_nu, 3, .inl nu)), (h_T, .inr (6, [.ref h_sg, .int ln, .int pl, h_T_3, .ref h_nu]))] [(k_sg, .char), (k_nu, .int)] sz [.ref h_T, .int 63]) (QG_ D (fun q i => some (.int (F_X3_readPart_63 sg ln pl nu).1)) (fun q i => pl.toInt ≤ ((F_X3_readPart_63 sg ln pl nu).2.2).toInt ∧ ((F_X3_readPart_63 sg ln pl nu).2.2).toInt ≤ pl.toInt + 1 ∧ (((F_X3_readPart_63 sg ln pl nu).2.2).toInt ≤ 60 ∨ ((F_X3_readPart_63 sg ln pl nu).2.2).toInt = pl.toInt)) (fun q k i => [(h_sg, .inl (k_sg, 60, .inl sg)), (h_nu, .inl (k_nu, 3, .inl (F_X3_readPart_63 sg ln pl nu).2.1)), (h_T, .inr (6, [.ref h_sg, .int ln, .int (F_X3_readPart_63 sg ln pl nu).2.2, h_T_3, .ref h_nu]))]) (fun q k i => [(k_sg, .char), (k_nu, .int)]) (va_A [(h_sg, .inl (k_sg, 60, .inl sg)), (h_nu, .inl (k_nu, 3, .inl nu)), (h_T, .inr (6, [.ref h_sg, .int ln, .int pl, h_T_3, .ref h_nu]))] sz)) 0 0 (va_A [(h_sg, .inl (k_sg, 60, .inl sg)), (h_nu, .inl (k_nu, 3, .inl nu)), (h_T, .inr (6, [.ref h_sg, .int ln, .int pl, h_T_3, .ref h_nu]))] sz) := by
  refine Met.ofW (cc := cX3_readPart) (maxL := 5) (ret := (some .boolean)) (by decide) rfl ?_
  intro p e s m args below meth c s₁ B hml hv
  obtain ⟨rfl, hsz, hP, hK, hD0, hF⟩ := hv
  have hx := B.exec
  have hb := B.bytes
  have hr := B.returns
  have hts := atoms_spec (ws := wsX3_readPart) B.pre
  have hown : s.vm.findClass RX3 = some m.cls := findClass_of_methodNamed B.named
  have hlocks := B.notSynchronized
  subst hsz
  have hD := hD0.self (sz := s.heap.size)
  generalize hAe : va_A [(h_sg, .inl (k_sg, 60, .inl sg)), (h_nu, .inl (k_nu, 3, .inl nu)), (h_T, .inr (6, [.ref h_sg, .int ln, .int pl, h_T_3, .ref h_nu]))] s.heap.size = A at hD hF ⊢
  have hA : ∀ q : Nat, s.heap.size ≤ q → A q := fun q h => by rw [← hAe]; exact Or.inr h
  obtain ⟨H, hHe⟩ : ∃ H : Heap, H = s.heap := ⟨_, rfl⟩
  have hS : va_S A s.heap H [] := by rw [hHe]; exact va_S.rf
  have hP : va_P D vwCl [(h_sg, .inl (k_sg, 60, .inl sg)), (h_nu, .inl (k_nu, 3, .inl nu)), (h_T, .inr (6, [.ref h_sg, .int ln, .int pl, h_T_3, .ref h_nu]))] H := by rw [hHe]; exact hP
  rw [← hHe]
  have hi_X3 : ∀ w ∈ wsX30, w ∈ wsX3_readPart := by decide +kernel
  have hl := lv_entry [.ref h_T, .int 63] (n := 5) (Nat.le_of_ble_eq_true rfl)
  rw [lg_entry_eq]
  generalize (lg_sl [.ref h_T, .int 63] ++ List.replicate (5 - (lg_sl [.ref h_T, .int 63]).length) Slot.unset).toArray = ls at hl ⊢
  have hl : lv_has ls 5 [(0, .ref h_T), (1, .int 63)] := hl
  have hM : F_X3_readPart_63 sg ln pl nu = (if pl < 0 then (1, nu, pl) else (if ln ≤ pl then (1, nu, pl) else (if (sg (ix pl)) < 48 then (1, nu, pl) else (if 57 < (sg (ix pl)) then (1, nu, pl) else (1, (upd nu 0 ((((nu 0) * 10) + (sg (ix pl))) - 48)), (pl + 1)))))) := rfl
  refine lv_aload_n hx hb dX3_readPart_0 rfl (lv_at hl 0 rfl) ?_
  refine va_get (D := D) (ci := 6) (v := .int pl) (own := RX3) (C := RX3) (T := TX3) (N := 5) hx hb hts hi_X3 hown hK hP 2 rfl rfl 2 (by decide) (hts (.fieldLink RX3 19 "CanalMaps$CommandText" "place" "I") (List.mem_of_getElem? (i := 1) (by decide +kernel))) (fun _ h9 => h9) rfl dX3_readPart_1 ?_
  refine lv_if_lt (tgt := 30) hx hb dX3_readPart_4 (by decide) (fun c_1 => ?_) (fun c_1 => ?_)
  · rw [if_pos c_1] at hM
    refine lv_bipush (v := 32) hx hb dX3_readPart_30 (by decide) ?_
    refine lv_istore_n (lv' := [(2, .int 32), (0, .ref h_T), (1, .int 63)]) hx hb dX3_readPart_32 rfl hl (by decide) rfl (fun ls hl => ?_)
    refine lv_iload_n hx hb dX3_readPart_33 rfl (lv_at hl 0 rfl) ?_
    refine lv_bipush (v := 48) hx hb dX3_readPart_34 (by decide) ?_
    refine lv_icmp_lt (tgt := 49) hx hb dX3_readPart_36 (by decide) (fun _ => ?_) (fun c9 => absurd (by decide +kernel) c9)
    refine lv_iconst (v := 0) hx hb dX3_readPart_49 (by decide) ?_
    refine lv_istore_n (lv' := [(3, .int 0), (2, .int 32), (0, .ref h_T), (1, .int 63)]) hx hb dX3_readPart_50 rfl hl (by decide) rfl (fun ls hl => ?_)
    refine lv_iload_n hx hb dX3_readPart_51 rfl (lv_at hl 3 rfl) ?_
    refine lv_bipush (v := 61) hx hb dX3_readPart_52 (by decide) ?_
    refine lv_icmp_ne (tgt := 89) hx hb dX3_readPart_54 (by decide) (fun _ => ?_) (fun c9 => absurd c9 (by decide +kernel))
    refine lv_iload_n hx hb dX3_readPart_89 rfl (lv_at hl 0 rfl) ?_
    refine lv_if_ne (tgt := 105) hx hb dX3_readPart_90 (by decide) (fun c9 => absurd (by decide +kernel) c9) (fun _ => ?_)
    refine lv_iload_n hx hb dX3_readPart_93 rfl (lv_at hl 3 rfl) ?_
    refine lv_bipush (v := 63) hx hb dX3_readPart_94 (by decide) ?_
    refine lv_icmp_ne (tgt := 103) hx hb dX3_readPart_96 (by decide) (fun c9 => absurd (by decide +kernel) c9) (fun _ => ?_)
    refine lv_iconst (v := 1) hx hb dX3_readPart_99 (by decide) ?_
    refine lv_goto (tgt := 104) hx hb dX3_readPart_100 (by decide) ?_
    refine W.widen (k := 0) (n := 0) (Nat.le_of_ble_eq_true rfl) (Nat.le_of_ble_eq_true rfl) ?_
    exact W.zret (v := 1) hx hb hr rfl (QG_.mk (fun _ => 0) (fun _ => 0) (fun _ => 0) [0, 1, 2] [0, 1] hP hD hK hS (by rw [hM]) (by rw [hM]; exact ⟨(show pl.toInt ≤ pl.toInt from (by have y0 := f_lt c_1; have z0 := hy0; have z1 := hy1; have z2 := hy2; have z3 := hy3; have e_0 : (0 : Int32).toInt = 0 := (by decide +kernel); have b4 := Int32.toInt_lt (pl); have d4 := Int32.le_toInt (pl); omega)), (show pl.toInt ≤ pl.toInt + 1 from (by have y0 := f_lt c_1; have z0 := hy0; have z1 := hy1; have z2 := hy2; have z3 := hy3; have e_0 : (0 : Int32).toInt = 0 := (by decide +kernel); have b5 := Int32.toInt_lt (pl); have d5 := Int32.le_toInt (pl); omega)), (show (pl.toInt ≤ 60 ∨ pl.toInt = pl.toInt) from (by have y0 := f_lt c_1; have z0 := hy0; have z1 := hy1; have z2 := hy2; have z3 := hy3; have e_0 : (0 : Int32).toInt = 0 := (by decide +kernel); have b6 := Int32.toInt_lt (pl); have d6 := Int32.le_toInt (pl); have b7 := Int32.toInt_lt (pl); have d7 := Int32.le_toInt (pl); omega))⟩) (by first | (rw [hM]; rfl) | rfl) (by decide) rfl) hS.2.2 dX3_readPart_104
  · rw [if_neg c_1] at hM
    refine lv_aload_n hx hb dX3_readPart_7 rfl (lv_at hl 0 rfl) ?_
    refine va_get (D := D) (ci := 6) (v := .int pl) (own := RX3) (C := RX3) (T := TX3) (N := 5) hx hb hts hi_X3 hown hK hP 2 rfl rfl 2 (by decide) (hts (.fieldLink RX3 19 "CanalMaps$CommandText" "place" "I") (List.mem_of_getElem? (i := 1) (by decide +kernel))) (fun _ h9 => h9) rfl dX3_readPart_8 ?_
    refine lv_aload_n hx hb dX3_readPart_11 rfl (lv_at hl 0 rfl) ?_
    refine va_get (D := D) (ci := 6) (v := .int ln) (own := RX3) (C := RX3) (T := TX3) (N := 5) hx hb hts hi_X3 hown hK hP 2 rfl rfl 1 (by decide) (hts (.fieldLink RX3 15 "CanalMaps$CommandText" "length" "I") (List.mem_of_getElem? (i := 2) (by decide +kernel))) (fun _ h9 => h9) rfl dX3_readPart_12 ?_
    refine lv_icmp_ge (tgt := 30) hx hb dX3_readPart_15 (by decide) (fun c_2 => ?_) (fun c_2 => ?_)
    · rw [if_pos c_2] at hM
      refine lv_bipush (v := 32) hx hb dX3_readPart_30 (by decide) ?_
      refine lv_istore_n (lv' := [(2, .int 32), (0, .ref h_T), (1, .int 63)]) hx hb dX3_readPart_32 rfl hl (by decide) rfl (fun ls hl => ?_)
      refine lv_iload_n hx hb dX3_readPart_33 rfl (lv_at hl 0 rfl) ?_
      refine lv_bipush (v := 48) hx hb dX3_readPart_34 (by decide) ?_
      refine lv_icmp_lt (tgt := 49) hx hb dX3_readPart_36 (by decide) (fun _ => ?_) (fun c9 => absurd (by decide +kernel) c9)
      refine lv_iconst (v := 0) hx hb dX3_readPart_49 (by decide) ?_
      refine lv_istore_n (lv' := [(3, .int 0), (2, .int 32), (0, .ref h_T), (1, .int 63)]) hx hb dX3_readPart_50 rfl hl (by decide) rfl (fun ls hl => ?_)
      refine lv_iload_n hx hb dX3_readPart_51 rfl (lv_at hl 3 rfl) ?_
      refine lv_bipush (v := 61) hx hb dX3_readPart_52 (by decide) ?_
      refine lv_icmp_ne (tgt := 89) hx hb dX3_readPart_54 (by decide) (fun _ => ?_) (fun c9 => absurd c9 (by decide +kernel))
      refine lv_iload_n hx hb dX3_readPart_89 rfl (lv_at hl 0 rfl) ?_
      refine lv_if_ne (tgt := 105) hx hb dX3_readPart_90 (by decide) (fun c9 => absurd (by decide +kernel) c9) (fun _ => ?_)
      refine lv_iload_n hx hb dX3_readPart_93 rfl (lv_at hl 3 rfl) ?_
      refine lv_bipush (v := 63) hx hb dX3_readPart_94 (by decide) ?_
      refine lv_icmp_ne (tgt := 103) hx hb dX3_readPart_96 (by decide) (fun c9 => absurd (by decide +kernel) c9) (fun _ => ?_)
      refine lv_iconst (v := 1) hx hb dX3_readPart_99 (by decide) ?_
      refine lv_goto (tgt := 104) hx hb dX3_readPart_100 (by decide) ?_
      refine W.widen (k := 0) (n := 0) (Nat.le_of_ble_eq_true rfl) (Nat.le_of_ble_eq_true rfl) ?_
      exact W.zret (v := 1) hx hb hr rfl (QG_.mk (fun _ => 0) (fun _ => 0) (fun _ => 0) [0, 1, 2] [0, 1] hP hD hK hS (by rw [hM]) (by rw [hM]; exact ⟨(show pl.toInt ≤ pl.toInt from (by have y0 := f_nlt c_1; have y1 := f_le c_2; have z0 := hy0; have z1 := hy1; have z2 := hy2; have z3 := hy3; have e_0 : (0 : Int32).toInt = 0 := (by decide +kernel); have b8 := Int32.toInt_lt (pl); have d8 := Int32.le_toInt (pl); omega)), (show pl.toInt ≤ pl.toInt + 1 from (by have y0 := f_nlt c_1; have y1 := f_le c_2; have z0 := hy0; have z1 := hy1; have z2 := hy2; have z3 := hy3; have e_0 : (0 : Int32).toInt = 0 := (by decide +kernel); have b9 := Int32.toInt_lt (pl); have d9 := Int32.le_toInt (pl); omega)), (show (pl.toInt ≤ 60 ∨ pl.toInt = pl.toInt) from (by have y0 := f_nlt c_1; have y1 := f_le c_2; have z0 := hy0; have z1 := hy1; have z2 := hy2; have z3 := hy3; have e_0 : (0 : Int32).toInt = 0 := (by decide +kernel); have b10 := Int32.toInt_lt (pl); have d10 := Int32.le_toInt (pl); have b11 := Int32.toInt_lt (pl); have d11 := Int32.le_toInt (pl); omega))⟩) (by first | (rw [hM]; rfl) | rfl) (by decide) rfl) hS.2.2 dX3_readPart_104
    · rw [if_neg c_2] at hM
      refine lv_aload_n hx hb dX3_readPart_18 rfl (lv_at hl 0 rfl) ?_
      refine va_get (D := D) (ci := 6) (v := .ref h_sg) (own := RX3) (C := RX3) (T := TX3) (N := 5) hx hb hts hi_X3 hown hK hP 2 rfl rfl 0 (by decide) (hts (.fieldLink RX3 9 "CanalMaps$CommandText" "signs" "[C") (List.mem_of_getElem? (i := 3) (by decide +kernel))) (fun _ h9 => h9) rfl dX3_readPart_19 ?_
      refine lv_aload_n hx hb dX3_readPart_22 rfl (lv_at hl 0 rfl) ?_
      refine va_get (D := D) (ci := 6) (v := .int pl) (own := RX3) (C := RX3) (T := TX3) (N := 5) hx hb hts hi_X3 hown hK hP 2 rfl rfl 2 (by decide) (hts (.fieldLink RX3 19 "CanalMaps$CommandText" "place" "I") (List.mem_of_getElem? (i := 1) (by decide +kernel))) (fun _ h9 => h9) rfl dX3_readPart_23 ?_
      refine va_cald hx hb hK hP 0 0 rfl rfl (vinI (by have y0 := f_nlt c_1; have y1 := f_nle c_2; have z0 := hy0; have z1 := hy1; have z2 := hy2; have z3 := hy3; have e_0 : (0 : Int32).toInt = 0 := (by decide +kernel); have b12 := Int32.toInt_lt (pl); have d12 := Int32.le_toInt (pl); omega) (by have y0 := f_nlt c_1; have y1 := f_nle c_2; have z0 := hy0; have z1 := hy1; have z2 := hy2; have z3 := hy3; have e_0 : (0 : Int32).toInt = 0 := (by decide +kernel); have b12 := Int32.toInt_lt (pl); have d12 := Int32.le_toInt (pl); omega)) dX3_readPart_26 ?_
      refine kt_ (v := (sg (ix pl))) rfl ?_
      refine lv_goto (tgt := 32) hx hb dX3_readPart_27 (by decide) ?_
      refine lv_istore_n (lv' := [(2, .int (sg (ix pl))), (0, .ref h_T), (1, .int 63)]) hx hb dX3_readPart_32 rfl hl (by decide) rfl (fun ls hl => ?_)
      refine lv_iload_n hx hb dX3_readPart_33 rfl (lv_at hl 0 rfl) ?_
      refine lv_bipush (v := 48) hx hb dX3_readPart_34 (by decide) ?_
      refine lv_icmp_lt (tgt := 49) hx hb dX3_readPart_36 (by decide) (fun c_3 => ?_) (fun c_3 => ?_)
      · rw [if_pos c_3] at hM
        refine lv_iconst (v := 0) hx hb dX3_readPart_49 (by decide) ?_
        refine lv_istore_n (lv' := [(3, .int 0), (2, .int (sg (ix pl))), (0, .ref h_T), (1, .int 63)]) hx hb dX3_readPart_50 rfl hl (by decide) rfl (fun ls hl => ?_)
        refine lv_iload_n hx hb dX3_readPart_51 rfl (lv_at hl 3 rfl) ?_
        refine lv_bipush (v := 61) hx hb dX3_readPart_52 (by decide) ?_
        refine lv_icmp_ne (tgt := 89) hx hb dX3_readPart_54 (by decide) (fun _ => ?_) (fun c9 => absurd c9 (by decide +kernel))
        refine lv_iload_n hx hb dX3_readPart_89 rfl (lv_at hl 0 rfl) ?_
        refine lv_if_ne (tgt := 105) hx hb dX3_readPart_90 (by decide) (fun c9 => absurd (by decide +kernel) c9) (fun _ => ?_)
        refine lv_iload_n hx hb dX3_readPart_93 rfl (lv_at hl 3 rfl) ?_
        refine lv_bipush (v := 63) hx hb dX3_readPart_94 (by decide) ?_
        refine lv_icmp_ne (tgt := 103) hx hb dX3_readPart_96 (by decide) (fun c9 => absurd (by decide +kernel) c9) (fun _ => ?_)
        refine lv_iconst (v := 1) hx hb dX3_readPart_99 (by decide) ?_
        refine lv_goto (tgt := 104) hx hb dX3_readPart_100 (by decide) ?_
        refine W.widen (k := 0) (n := 0) (Nat.le_of_ble_eq_true rfl) (Nat.le_of_ble_eq_true rfl) ?_
        exact W.zret (v := 1) hx hb hr rfl (QG_.mk (fun _ => 0) (fun _ => 0) (fun _ => 0) [0, 1, 2] [0, 1] hP hD hK hS (by rw [hM]) (by rw [hM]; exact ⟨(show pl.toInt ≤ pl.toInt from (by have y0 := f_nlt c_1; have y1 := f_nle c_2; have y2 := f_lt c_3; have z0 := hy0; have z1 := hy1; have z2 := hy2; have z3 := hy3; have e_0 : (0 : Int32).toInt = 0 := (by decide +kernel); have e_48 : (48 : Int32).toInt = 48 := (by decide +kernel); have b13 := Int32.toInt_lt (pl); have d13 := Int32.le_toInt (pl); have x0 := ix_toNat pl; omega)), (show pl.toInt ≤ pl.toInt + 1 from (by have y0 := f_nlt c_1; have y1 := f_nle c_2; have y2 := f_lt c_3; have z0 := hy0; have z1 := hy1; have z2 := hy2; have z3 := hy3; have e_0 : (0 : Int32).toInt = 0 := (by decide +kernel); have e_48 : (48 : Int32).toInt = 48 := (by decide +kernel); have b14 := Int32.toInt_lt (pl); have d14 := Int32.le_toInt (pl); have x0 := ix_toNat pl; omega)), (show (pl.toInt ≤ 60 ∨ pl.toInt = pl.toInt) from (by have y0 := f_nlt c_1; have y1 := f_nle c_2; have y2 := f_lt c_3; have z0 := hy0; have z1 := hy1; have z2 := hy2; have z3 := hy3; have e_0 : (0 : Int32).toInt = 0 := (by decide +kernel); have e_48 : (48 : Int32).toInt = 48 := (by decide +kernel); have b15 := Int32.toInt_lt (pl); have d15 := Int32.le_toInt (pl); have b16 := Int32.toInt_lt (pl); have d16 := Int32.le_toInt (pl); have x0 := ix_toNat pl; omega))⟩) (by first | (rw [hM]; rfl) | rfl) (by decide) rfl) hS.2.2 dX3_readPart_104
      · rw [if_neg c_3] at hM
        refine lv_iload_n hx hb dX3_readPart_39 rfl (lv_at hl 0 rfl) ?_
        refine lv_bipush (v := 57) hx hb dX3_readPart_40 (by decide) ?_
        refine lv_icmp_gt (tgt := 49) hx hb dX3_readPart_42 (by decide) (fun c_4 => ?_) (fun c_4 => ?_)
        · rw [if_pos c_4] at hM
          refine lv_iconst (v := 0) hx hb dX3_readPart_49 (by decide) ?_
          refine lv_istore_n (lv' := [(3, .int 0), (2, .int (sg (ix pl))), (0, .ref h_T), (1, .int 63)]) hx hb dX3_readPart_50 rfl hl (by decide) rfl (fun ls hl => ?_)
          refine lv_iload_n hx hb dX3_readPart_51 rfl (lv_at hl 3 rfl) ?_
          refine lv_bipush (v := 61) hx hb dX3_readPart_52 (by decide) ?_
          refine lv_icmp_ne (tgt := 89) hx hb dX3_readPart_54 (by decide) (fun _ => ?_) (fun c9 => absurd c9 (by decide +kernel))
          refine lv_iload_n hx hb dX3_readPart_89 rfl (lv_at hl 0 rfl) ?_
          refine lv_if_ne (tgt := 105) hx hb dX3_readPart_90 (by decide) (fun c9 => absurd (by decide +kernel) c9) (fun _ => ?_)
          refine lv_iload_n hx hb dX3_readPart_93 rfl (lv_at hl 3 rfl) ?_
          refine lv_bipush (v := 63) hx hb dX3_readPart_94 (by decide) ?_
          refine lv_icmp_ne (tgt := 103) hx hb dX3_readPart_96 (by decide) (fun c9 => absurd (by decide +kernel) c9) (fun _ => ?_)
          refine lv_iconst (v := 1) hx hb dX3_readPart_99 (by decide) ?_
          refine lv_goto (tgt := 104) hx hb dX3_readPart_100 (by decide) ?_
          refine W.widen (k := 0) (n := 0) (Nat.le_of_ble_eq_true rfl) (Nat.le_of_ble_eq_true rfl) ?_
          exact W.zret (v := 1) hx hb hr rfl (QG_.mk (fun _ => 0) (fun _ => 0) (fun _ => 0) [0, 1, 2] [0, 1] hP hD hK hS (by rw [hM]) (by rw [hM]; exact ⟨(show pl.toInt ≤ pl.toInt from (by have y0 := f_nlt c_1; have y1 := f_nle c_2; have y2 := f_nlt c_3; have y3 := f_lt c_4; have z0 := hy0; have z1 := hy1; have z2 := hy2; have z3 := hy3; have e_0 : (0 : Int32).toInt = 0 := (by decide +kernel); have e_48 : (48 : Int32).toInt = 48 := (by decide +kernel); have e_57 : (57 : Int32).toInt = 57 := (by decide +kernel); have b17 := Int32.toInt_lt (pl); have d17 := Int32.le_toInt (pl); have x0 := ix_toNat pl; omega)), (show pl.toInt ≤ pl.toInt + 1 from (by have y0 := f_nlt c_1; have y1 := f_nle c_2; have y2 := f_nlt c_3; have y3 := f_lt c_4; have z0 := hy0; have z1 := hy1; have z2 := hy2; have z3 := hy3; have e_0 : (0 : Int32).toInt = 0 := (by decide +kernel); have e_48 : (48 : Int32).toInt = 48 := (by decide +kernel); have e_57 : (57 : Int32).toInt = 57 := (by decide +kernel); have b18 := Int32.toInt_lt (pl); have d18 := Int32.le_toInt (pl); have x0 := ix_toNat pl; omega)), (show (pl.toInt ≤ 60 ∨ pl.toInt = pl.toInt) from (by have y0 := f_nlt c_1; have y1 := f_nle c_2; have y2 := f_nlt c_3; have y3 := f_lt c_4; have z0 := hy0; have z1 := hy1; have z2 := hy2; have z3 := hy3; have e_0 : (0 : Int32).toInt = 0 := (by decide +kernel); have e_48 : (48 : Int32).toInt = 48 := (by decide +kernel); have e_57 : (57 : Int32).toInt = 57 := (by decide +kernel); have b19 := Int32.toInt_lt (pl); have d19 := Int32.le_toInt (pl); have b20 := Int32.toInt_lt (pl); have d20 := Int32.le_toInt (pl); have x0 := ix_toNat pl; omega))⟩) (by first | (rw [hM]; rfl) | rfl) (by decide) rfl) hS.2.2 dX3_readPart_104
        · rw [if_neg c_4] at hM
          refine lv_iconst (v := 1) hx hb dX3_readPart_45 (by decide) ?_
          refine lv_goto (tgt := 50) hx hb dX3_readPart_46 (by decide) ?_
          refine lv_istore_n (lv' := [(3, .int 1), (2, .int (sg (ix pl))), (0, .ref h_T), (1, .int 63)]) hx hb dX3_readPart_50 rfl hl (by decide) rfl (fun ls hl => ?_)
          refine lv_iload_n hx hb dX3_readPart_51 rfl (lv_at hl 3 rfl) ?_
          refine lv_bipush (v := 61) hx hb dX3_readPart_52 (by decide) ?_
          refine lv_icmp_ne (tgt := 89) hx hb dX3_readPart_54 (by decide) (fun _ => ?_) (fun c9 => absurd c9 (by decide +kernel))
          refine lv_iload_n hx hb dX3_readPart_89 rfl (lv_at hl 0 rfl) ?_
          refine lv_if_ne (tgt := 105) hx hb dX3_readPart_90 (by decide) (fun _ => ?_) (fun c9 => absurd c9 (by decide +kernel))
          refine lv_iload_n hx hb dX3_readPart_105 rfl (lv_at hl 3 rfl) ?_
          refine lv_bipush (v := 63) hx hb dX3_readPart_106 (by decide) ?_
          refine lv_icmp_ne (tgt := 115) hx hb dX3_readPart_108 (by decide) (fun c9 => absurd (by decide +kernel) c9) (fun _ => ?_)
          refine lv_iconst (v := 0) hx hb dX3_readPart_111 (by decide) ?_
          refine lv_goto (tgt := 119) hx hb dX3_readPart_112 (by decide) ?_
          refine lv_istore (lv' := [(4, .int 0), (3, .int 1), (2, .int (sg (ix pl))), (0, .ref h_T), (1, .int 63)]) hx hb dX3_readPart_119 hl (by decide) rfl (fun ls hl => ?_)
          refine lv_iload hx hb dX3_readPart_121 (lv_at hl 0 rfl) ?_
          refine lv_if_lt (tgt := 154) hx hb dX3_readPart_123 (by decide) (fun c9 => absurd c9 (by decide +kernel)) (fun _ => ?_)
          refine lv_iload hx hb dX3_readPart_126 (lv_at hl 0 rfl) ?_
          refine lv_iconst (v := 3) hx hb dX3_readPart_128 (by decide) ?_
          refine lv_icmp_ge (tgt := 154) hx hb dX3_readPart_129 (by decide) (fun c9 => absurd c9 (by decide +kernel)) (fun _ => ?_)
          refine lv_aload_n hx hb dX3_readPart_132 rfl (lv_at hl 3 rfl) ?_
          refine va_get (D := D) (ci := 6) (v := .ref h_nu) (own := RX3) (C := RX3) (T := TX3) (N := 5) hx hb hts hi_X3 hown hK hP 2 rfl rfl 4 (by decide) (hts (.fieldLink RX3 31 "CanalMaps$CommandText" "numbers" "[I") (List.mem_of_getElem? (i := 4) (by decide +kernel))) (fun _ h9 => h9) rfl dX3_readPart_133 ?_
          refine lv_iload hx hb dX3_readPart_136 (lv_at hl 0 rfl) ?_
          refine lv_aload_n hx hb dX3_readPart_138 rfl (lv_at hl 3 rfl) ?_
          refine va_get (D := D) (ci := 6) (v := .ref h_nu) (own := RX3) (C := RX3) (T := TX3) (N := 5) hx hb hts hi_X3 hown hK hP 2 rfl rfl 4 (by decide) (hts (.fieldLink RX3 31 "CanalMaps$CommandText" "numbers" "[I") (List.mem_of_getElem? (i := 4) (by decide +kernel))) (fun _ h9 => h9) rfl dX3_readPart_139 ?_
          refine lv_iload hx hb dX3_readPart_142 (lv_at hl 0 rfl) ?_
          refine va_iald hx hb hK hP 1 1 rfl rfl (vin_ (by decide +kernel)) dX3_readPart_144 ?_
          refine kt_ (v := (nu 0)) (congrArg nu (by decide +kernel)) ?_
          refine lv_bipush (v := 10) hx hb dX3_readPart_145 (by decide) ?_
          refine lv_imul hx hb dX3_readPart_147 ?_
          refine lv_iload_n hx hb dX3_readPart_148 rfl (lv_at hl 2 rfl) ?_
          refine lv_iadd hx hb dX3_readPart_149 ?_
          refine lv_bipush (v := 48) hx hb dX3_readPart_150 (by decide) ?_
          refine lv_isub hx hb dX3_readPart_152 ?_
          refine ka_iast (g := (upd nu 0 ((((nu 0) * 10) + (sg (ix pl))) - 48))) hx hb hK hP hD hS 1 1 rfl rfl (vin_ (by decide +kernel)) (congrArg (fun z9 => upd _ z9 _) (by decide +kernel)) dX3_readPart_153 (fun H locs hP hD hS => ?_)
          have hP : va_P D vwCl [(h_sg, .inl (k_sg, 60, .inl sg)), (h_nu, .inl (k_nu, 3, .inl (upd nu 0 ((((nu 0) * 10) + (sg (ix pl))) - 48)))), (h_T, .inr (6, [.ref h_sg, .int ln, .int pl, h_T_3, .ref h_nu]))] H := hP
          have hD : va_D A [(h_sg, .inl (k_sg, 60, .inl sg)), (h_nu, .inl (k_nu, 3, .inl (upd nu 0 ((((nu 0) * 10) + (sg (ix pl))) - 48)))), (h_T, .inr (6, [.ref h_sg, .int ln, .int pl, h_T_3, .ref h_nu]))] := hD
          refine lv_aload_n hx hb dX3_readPart_154 rfl (lv_at hl 3 rfl) ?_
          refine lv_dup hx hb dX3_readPart_155 rfl ?_
          refine va_get (D := D) (ci := 6) (v := .int pl) (own := RX3) (C := RX3) (T := TX3) (N := 5) hx hb hts hi_X3 hown hK hP 2 rfl rfl 2 (by decide) (hts (.fieldLink RX3 19 "CanalMaps$CommandText" "place" "I") (List.mem_of_getElem? (i := 1) (by decide +kernel))) (fun _ h9 => h9) rfl dX3_readPart_156 ?_
          refine lv_iconst (v := 1) hx hb dX3_readPart_159 (by decide) ?_
          refine lv_iadd hx hb dX3_readPart_160 ?_
          refine va_put (D := D) (ci := 6) (v := .int (pl + 1)) (ty := .int) (own := RX3) (C := RX3) (T := TX3) (N := 5) hx hb hts hi_X3 tyX3 tyX3_ok nmX3 hown hK hP hD hS 2 rfl rfl 2 (by decide) (hts (.fieldLink RX3 19 "CanalMaps$CommandText" "place" "I") (List.mem_of_getElem? (i := 1) (by decide +kernel))) (fun _ h9 => h9) rfl (by decide +kernel) rfl rfl (Nat.le_of_ble_eq_true rfl) dX3_readPart_161 (fun H locs hP hD hS => ?_)
          have hP : va_P D vwCl [(h_sg, .inl (k_sg, 60, .inl sg)), (h_nu, .inl (k_nu, 3, .inl (upd nu 0 ((((nu 0) * 10) + (sg (ix pl))) - 48)))), (h_T, .inr (6, [.ref h_sg, .int ln, .int (pl + 1), h_T_3, .ref h_nu]))] H := hP
          have hD : va_D A [(h_sg, .inl (k_sg, 60, .inl sg)), (h_nu, .inl (k_nu, 3, .inl (upd nu 0 ((((nu 0) * 10) + (sg (ix pl))) - 48)))), (h_T, .inr (6, [.ref h_sg, .int ln, .int (pl + 1), h_T_3, .ref h_nu]))] := hD
          refine lv_iconst (v := 1) hx hb dX3_readPart_164 (by decide) ?_
          refine W.widen (k := 0) (n := 0) (Nat.le_of_ble_eq_true rfl) (Nat.le_of_ble_eq_true rfl) ?_
          exact W.zret (v := 1) hx hb hr rfl (QG_.mk (fun _ => 0) (fun _ => 0) (fun _ => 0) [0, 1, 2] [0, 1] hP hD hK hS (by rw [hM]) (by rw [hM]; exact ⟨(show pl.toInt ≤ (pl + 1).toInt from (by have y0 := f_nlt c_1; have y1 := f_nle c_2; have y2 := f_nlt c_3; have y3 := f_nlt c_4; have z0 := hy0; have z1 := hy1; have z2 := hy2; have z3 := hy3; have e_0 : (0 : Int32).toInt = 0 := (by decide +kernel); have e_48 : (48 : Int32).toInt = 48 := (by decide +kernel); have e_57 : (57 : Int32).toInt = 57 := (by decide +kernel); have b22 := Int32.toInt_lt (pl); have d22 := Int32.le_toInt (pl); have l23 : (1 : Int32).toInt = 1 := (by decide +kernel); have q21 := addI (a := pl) (b := 1) (by omega) (by omega); have x0 := ix_toNat pl; omega)), (show (pl + 1).toInt ≤ pl.toInt + 1 from (by have y0 := f_nlt c_1; have y1 := f_nle c_2; have y2 := f_nlt c_3; have y3 := f_nlt c_4; have z0 := hy0; have z1 := hy1; have z2 := hy2; have z3 := hy3; have e_0 : (0 : Int32).toInt = 0 := (by decide +kernel); have e_48 : (48 : Int32).toInt = 48 := (by decide +kernel); have e_57 : (57 : Int32).toInt = 57 := (by decide +kernel); have b25 := Int32.toInt_lt (pl); have d25 := Int32.le_toInt (pl); have l26 : (1 : Int32).toInt = 1 := (by decide +kernel); have q24 := addI (a := pl) (b := 1) (by omega) (by omega); have x0 := ix_toNat pl; omega)), (show ((pl + 1).toInt ≤ 60 ∨ (pl + 1).toInt = pl.toInt) from (by have y0 := f_nlt c_1; have y1 := f_nle c_2; have y2 := f_nlt c_3; have y3 := f_nlt c_4; have z0 := hy0; have z1 := hy1; have z2 := hy2; have z3 := hy3; have e_0 : (0 : Int32).toInt = 0 := (by decide +kernel); have e_48 : (48 : Int32).toInt = 48 := (by decide +kernel); have e_57 : (57 : Int32).toInt = 57 := (by decide +kernel); have b28 := Int32.toInt_lt (pl); have d28 := Int32.le_toInt (pl); have l29 : (1 : Int32).toInt = 1 := (by decide +kernel); have q27 := addI (a := pl) (b := 1) (by omega) (by omega); have b31 := Int32.toInt_lt (pl); have d31 := Int32.le_toInt (pl); have l32 : (1 : Int32).toInt = 1 := (by decide +kernel); have q30 := addI (a := pl) (b := 1) (by omega) (by omega); have x0 := ix_toNat pl; omega))⟩) (by first | (rw [hM]; rfl) | rfl) (by decide) rfl) hS.2.2 dX3_readPart_165
def K_X3_readCommand_88 (sg : Nat → Int32) (ln : Int32) : (Int32 × (Nat → Int32) × Int32) → (Int32 × (Nat → Int32) × Int32 × Nat)
  | (y88bb_0, y88bb_1, y88bb_2) => (if y88bb_0 = 0 then (0, y88bb_1, y88bb_2, 1) else (if ln ≤ y88bb_2 then (1, y88bb_1, y88bb_2, 1) else (if (sg (ix y88bb_2)) = 59 then (1, y88bb_1, y88bb_2, 1) else (0, y88bb_1, y88bb_2, 1))))
def K_X3_readCommand_88_1 (sg : Nat → Int32) (ln : Int32) : (Int32 × (Nat → Int32) × Int32) → (Int32 × (Nat → Int32) × Int32 × Nat)
  | (y88b_0, y88b_1, y88b_2) => (if y88b_0 = 0 then (0, y88b_1, y88b_2, 1) else (if (F_X3_readPart_61 sg ln y88b_2).1 = 0 then (0, y88b_1, (F_X3_readPart_61 sg ln y88b_2).2, 1) else (K_X3_readCommand_88 sg ln (F_X3_readPart_50 sg ln ((F_X3_readPart_61 sg ln y88b_2).2) y88b_1))))
def K_X3_readCommand_88_2 (sg : Nat → Int32) (ln : Int32) : (Int32 × (Nat → Int32) × Int32) → (Int32 × (Nat → Int32) × Int32 × Nat)
  | (y88_0, y88_1, y88_2) => (if y88_0 = 0 then (0, y88_1, y88_2, 1) else (K_X3_readCommand_88_1 sg ln (F_X3_readPart_49 sg ln y88_2 y88_1)))
def K_X3_readCommand_88_3 (sg : Nat → Int32) (ln : Int32) : (Int32 × (Nat → Int32) × Int32) → (Int32 × (Nat → Int32) × Int32 × Nat)
  | (y88b_0, y88b_1, y88b_2) => (if y88b_0 = 0 then (0, y88b_1, y88b_2, 2) else (if ln ≤ y88b_2 then (1, y88b_1, y88b_2, 2) else (if (sg (ix y88b_2)) = 59 then (1, y88b_1, y88b_2, 2) else (0, y88b_1, y88b_2, 2))))
def K_X3_readCommand_88_4 (sg : Nat → Int32) (ln : Int32) : (Int32 × (Nat → Int32) × Int32) → (Int32 × (Nat → Int32) × Int32 × Nat)
  | (y88_0, y88_1, y88_2) => (if y88_0 = 0 then (0, y88_1, y88_2, 2) else (K_X3_readCommand_88_3 sg ln (F_X3_readPart_49 sg ln y88_2 y88_1)))
def K_X3_readCommand_88_5 (sg : Nat → Int32) (ln : Int32) : (Int32 × (Nat → Int32) × Int32) → (Int32 × (Nat → Int32) × Int32 × Nat)
  | (y88b_0, y88b_1, y88b_2) => (if y88b_0 = 0 then (0, y88b_1, y88b_2, 3) else (if ln ≤ y88b_2 then (1, y88b_1, y88b_2, 3) else (if (sg (ix y88b_2)) = 59 then (1, y88b_1, y88b_2, 3) else (0, y88b_1, y88b_2, 3))))
def K_X3_readCommand_88_6 (sg : Nat → Int32) (ln : Int32) : (Int32 × (Nat → Int32) × Int32) → (Int32 × (Nat → Int32) × Int32 × Nat)
  | (y88_0, y88_1, y88_2) => (if y88_0 = 0 then (0, y88_1, y88_2, 3) else (if (F_X3_readPart_61 sg ln y88_2).1 = 0 then (0, y88_1, (F_X3_readPart_61 sg ln y88_2).2, 3) else (K_X3_readCommand_88_5 sg ln (F_X3_readPart_49 sg ln ((F_X3_readPart_61 sg ln y88_2).2) y88_1))))
def K_X3_readCommand_88_7 (sg : Nat → Int32) (ln : Int32) : (Int32 × (Nat → Int32) × Int32) → (Int32 × (Nat → Int32) × Int32 × Nat)
  | (y88b_0, y88b_1, y88b_2) => (if y88b_0 = 0 then (0, y88b_1, y88b_2, 5) else (if ln ≤ y88b_2 then (1, y88b_1, y88b_2, 5) else (if (sg (ix y88b_2)) = 59 then (1, y88b_1, y88b_2, 5) else (0, y88b_1, y88b_2, 5))))
def K_X3_readCommand_88_8 (sg : Nat → Int32) (ln : Int32) : (Int32 × (Nat → Int32) × Int32) → (Int32 × (Nat → Int32) × Int32 × Nat)
  | (y88_0, y88_1, y88_2) => (if y88_0 = 0 then (0, y88_1, y88_2, 5) else (K_X3_readCommand_88_7 sg ln (F_X3_readPart_63 sg ln y88_2 y88_1)))
def F_X3_readCommand (sg : Nat → Int32) (ln : Int32) (pl : Int32) (ch : Nat) (nu : Nat → Int32) : Int32 × (Nat → Int32) × Int32 × Nat := (if pl < 0 then (0, nu, pl, ch) else (if ln ≤ pl then (0, nu, pl, ch) else (if (F_X2_beginningWith (sg (ix pl))) = 0 then (if ln ≤ (pl + 1) then (1, (F_J7_fill_53178 nu 3 0), (pl + 1), 0) else (if (sg (ix (pl + 1))) = 59 then (1, (F_J7_fill_53178 nu 3 0), (pl + 1), 0) else (0, (F_J7_fill_53178 nu 3 0), (pl + 1), 0))) else (if (F_X2_beginningWith (sg (ix pl))) = 1 then (K_X3_readCommand_88_2 sg ln (F_X3_readPart_48 sg ln (pl + 1) (F_J7_fill_53178 nu 3 0))) else (if (F_X2_beginningWith (sg (ix pl))) = 2 then (K_X3_readCommand_88_4 sg ln (F_X3_readPart_48 sg ln (pl + 1) (F_J7_fill_53178 nu 3 0))) else (if (F_X2_beginningWith (sg (ix pl))) = 3 then (K_X3_readCommand_88_6 sg ln (F_X3_readPart_48 sg ln (pl + 1) (F_J7_fill_53178 nu 3 0))) else (if (F_X2_beginningWith (sg (ix pl))) = 4 then (if ln ≤ (pl + 1) then (1, (F_J7_fill_53178 nu 3 0), (pl + 1), 4) else (if (sg (ix (pl + 1))) = 59 then (1, (F_J7_fill_53178 nu 3 0), (pl + 1), 4) else (0, (F_J7_fill_53178 nu 3 0), (pl + 1), 4))) else (if (F_X2_beginningWith (sg (ix pl))) = 5 then (K_X3_readCommand_88_8 sg ln (F_X3_readPart_48 sg ln (pl + 1) (F_J7_fill_53178 nu 3 0))) else (0, nu, pl, ch)))))))))
set_option maxHeartbeats 4000000 in
set_option maxRecDepth 100000 in
theorem c_X3_readCommand (l : Launch) (hl0 : l.stackTraces = false) (D : va_G) (ad : Nat → Nat) (sz : Nat) (h_sg : Nat) (h_nu : Nat) (h_T : Nat) (k_sg : ClassId) (k_nu : ClassId) (sg : Nat → Int32) (nu : Nat → Int32) (ln : Int32) (pl : Int32) (ch : Nat) (hy0 : 0 ≤ ln.toInt) (hy1 : ln.toInt ≤ 60) (hy2 : 0 ≤ pl.toInt) (hy3 : pl.toInt ≤ 200) : Met l yX3_readCommand wsX3_readCommand ({ frames := 4, cells := 0, slots := 0, locals := 93 }) (PC_ D ad [(h_sg, .inl (k_sg, 60, .inl sg)), (h_nu, .inl (k_nu, 3, .inl nu)), (h_T, .inr (6, [.ref h_sg, .int ln, .int pl, (enV ad ch), .ref h_nu]))] [(k_sg, .char), (k_nu, .int)] sz [.ref h_T]) (QG_ D (fun q i => some (.int (F_X3_readCommand sg ln pl ch nu).1)) (fun q i => pl.toInt ≤ ((F_X3_readCommand sg ln pl ch nu).2.2.1).toInt ∧ (((F_X3_readCommand sg ln pl ch nu).2.2.1).toInt ≤ 60 ∨ ((F_X3_readCommand sg ln pl ch nu).2.2.1).toInt = pl.toInt) ∧ (((F_X3_readCommand sg ln pl ch nu).2.2.2) < 6 ∨ ((F_X3_readCommand sg ln pl ch nu).2.2.2) = ch)) (fun q k i => [(h_sg, .inl (k_sg, 60, .inl sg)), (h_nu, .inl (k_nu, 3, .inl (F_X3_readCommand sg ln pl ch nu).2.1)), (h_T, .inr (6, [.ref h_sg, .int ln, .int (F_X3_readCommand sg ln pl ch nu).2.2.1, (enV ad (F_X3_readCommand sg ln pl ch nu).2.2.2), .ref h_nu]))]) (fun q k i => [(k_sg, .char), (k_nu, .int)]) (va_A [(h_sg, .inl (k_sg, 60, .inl sg)), (h_nu, .inl (k_nu, 3, .inl nu)), (h_T, .inr (6, [.ref h_sg, .int ln, .int pl, (enV ad ch), .ref h_nu]))] sz)) 0 0 (va_A [(h_sg, .inl (k_sg, 60, .inl sg)), (h_nu, .inl (k_nu, 3, .inl nu)), (h_T, .inr (6, [.ref h_sg, .int ln, .int pl, (enV ad ch), .ref h_nu]))] sz) := by
  refine Met.ofW (cc := cX3_readCommand) (maxL := 4) (ret := (some .boolean)) (by decide) rfl ?_
  intro p e s m args below meth c s₁ B hml hv
  obtain ⟨rfl, hsz, hP, hK, hD0, hF⟩ := hv
  have hx := B.exec
  have hb := B.bytes
  have hr := B.returns
  have hts := atoms_spec (ws := wsX3_readCommand) B.pre
  have hown : s.vm.findClass RX3 = some m.cls := findClass_of_methodNamed B.named
  have hlocks := B.notSynchronized
  subst hsz
  have hD := hD0.self (sz := s.heap.size)
  generalize hAe : va_A [(h_sg, .inl (k_sg, 60, .inl sg)), (h_nu, .inl (k_nu, 3, .inl nu)), (h_T, .inr (6, [.ref h_sg, .int ln, .int pl, (enV ad ch), .ref h_nu]))] s.heap.size = A at hD hF ⊢
  have hA : ∀ q : Nat, s.heap.size ≤ q → A q := fun q h => by rw [← hAe]; exact Or.inr h
  obtain ⟨H, hHe⟩ : ∃ H : Heap, H = s.heap := ⟨_, rfl⟩
  have hS : va_S A s.heap H [] := by rw [hHe]; exact va_S.rf
  have hP : va_P D vwCl [(h_sg, .inl (k_sg, 60, .inl sg)), (h_nu, .inl (k_nu, 3, .inl nu)), (h_T, .inr (6, [.ref h_sg, .int ln, .int pl, (enV ad ch), .ref h_nu]))] H := by rw [hHe]; exact hP
  rw [← hHe]
  have hi_X3 : ∀ w ∈ wsX30, w ∈ wsX3_readCommand := by decide +kernel
  have hl := lv_entry [.ref h_T] (n := 4) (Nat.le_of_ble_eq_true rfl)
  rw [lg_entry_eq]
  generalize (lg_sl [.ref h_T] ++ List.replicate (4 - (lg_sl [.ref h_T]).length) Slot.unset).toArray = ls at hl ⊢
  have hl : lv_has ls 4 [(0, .ref h_T)] := hl
  have hM : F_X3_readCommand sg ln pl ch nu = (if pl < 0 then (0, nu, pl, ch) else (if ln ≤ pl then (0, nu, pl, ch) else (if (F_X2_beginningWith (sg (ix pl))) = 0 then (if ln ≤ (pl + 1) then (1, (F_J7_fill_53178 nu 3 0), (pl + 1), 0) else (if (sg (ix (pl + 1))) = 59 then (1, (F_J7_fill_53178 nu 3 0), (pl + 1), 0) else (0, (F_J7_fill_53178 nu 3 0), (pl + 1), 0))) else (if (F_X2_beginningWith (sg (ix pl))) = 1 then (K_X3_readCommand_88_2 sg ln (F_X3_readPart_48 sg ln (pl + 1) (F_J7_fill_53178 nu 3 0))) else (if (F_X2_beginningWith (sg (ix pl))) = 2 then (K_X3_readCommand_88_4 sg ln (F_X3_readPart_48 sg ln (pl + 1) (F_J7_fill_53178 nu 3 0))) else (if (F_X2_beginningWith (sg (ix pl))) = 3 then (K_X3_readCommand_88_6 sg ln (F_X3_readPart_48 sg ln (pl + 1) (F_J7_fill_53178 nu 3 0))) else (if (F_X2_beginningWith (sg (ix pl))) = 4 then (if ln ≤ (pl + 1) then (1, (F_J7_fill_53178 nu 3 0), (pl + 1), 4) else (if (sg (ix (pl + 1))) = 59 then (1, (F_J7_fill_53178 nu 3 0), (pl + 1), 4) else (0, (F_J7_fill_53178 nu 3 0), (pl + 1), 4))) else (if (F_X2_beginningWith (sg (ix pl))) = 5 then (K_X3_readCommand_88_8 sg ln (F_X3_readPart_48 sg ln (pl + 1) (F_J7_fill_53178 nu 3 0))) else (0, nu, pl, ch))))))))) := rfl
  refine lv_aload_n hx hb dX3_readCommand_0 rfl (lv_at hl 0 rfl) ?_
  refine va_get (D := D) (ci := 6) (v := .int pl) (own := RX3) (C := RX3) (T := TX3) (N := 5) hx hb hts hi_X3 hown hK hP 2 rfl rfl 2 (by decide) (hts (.fieldLink RX3 19 "CanalMaps$CommandText" "place" "I") (List.mem_of_getElem? (i := 1) (by decide +kernel))) (fun _ h9 => h9) rfl dX3_readCommand_1 ?_
  refine lv_if_lt (tgt := 33) hx hb dX3_readCommand_4 (by decide) (fun c_1 => ?_) (fun c_1 => ?_)
  · rw [if_pos c_1] at hM
    refine lv_null hx hb dX3_readCommand_33 ?_
    refine lv_astore_nN (lv' := [(1, .null), (0, .ref h_T)]) hx hb dX3_readCommand_34 rfl hl (by decide) rfl (fun ls hl => ?_)
    refine lv_aload_nN hx hb dX3_readCommand_35 rfl (lv_at hl 0 rfl) ?_
    refine lv_ifnonnullN hx hb dX3_readCommand_36 ?_
    refine lv_iconst (v := 0) hx hb dX3_readCommand_39 (by decide) ?_
    refine W.widen (k := 0) (n := 0) (Nat.le_of_ble_eq_true rfl) (Nat.le_of_ble_eq_true rfl) ?_
    exact W.zret (v := 0) hx hb hr rfl (QG_.mk (fun _ => 0) (fun _ => 0) (fun _ => 0) [0, 1, 2] [0, 1] hP hD hK hS (by rw [hM]) (by rw [hM]; exact ⟨(show pl.toInt ≤ pl.toInt from (by have y0 := f_lt c_1; have z0 := hy0; have z1 := hy1; have z2 := hy2; have z3 := hy3; have e011 : (1 : Int32).toInt = 1 := (by decide +kernel); have rw1 := addI (a := pl) (b := 1) (by omega) (by omega); have e_0 : (0 : Int32).toInt = 0 := (by decide +kernel); have b118 := Int32.toInt_lt (pl); have d118 := Int32.le_toInt (pl); omega)), (show (pl.toInt ≤ 60 ∨ pl.toInt = pl.toInt) from (by have y0 := f_lt c_1; have z0 := hy0; have z1 := hy1; have z2 := hy2; have z3 := hy3; have e011 : (1 : Int32).toInt = 1 := (by decide +kernel); have rw1 := addI (a := pl) (b := 1) (by omega) (by omega); have e_0 : (0 : Int32).toInt = 0 := (by decide +kernel); have b119 := Int32.toInt_lt (pl); have d119 := Int32.le_toInt (pl); have b120 := Int32.toInt_lt (pl); have d120 := Int32.le_toInt (pl); omega)), (show (ch < 6 ∨ ch = ch) from (by have y0 := f_lt c_1; have z0 := hy0; have z1 := hy1; have z2 := hy2; have z3 := hy3; have e011 : (1 : Int32).toInt = 1 := (by decide +kernel); have rw1 := addI (a := pl) (b := 1) (by omega) (by omega); have e_0 : (0 : Int32).toInt = 0 := (by decide +kernel); omega))⟩) (by first | (rw [hM]; rfl) | rfl) (by decide) rfl) hS.2.2 dX3_readCommand_40
  · rw [if_neg c_1] at hM
    refine lv_aload_n hx hb dX3_readCommand_7 rfl (lv_at hl 0 rfl) ?_
    refine va_get (D := D) (ci := 6) (v := .int pl) (own := RX3) (C := RX3) (T := TX3) (N := 5) hx hb hts hi_X3 hown hK hP 2 rfl rfl 2 (by decide) (hts (.fieldLink RX3 19 "CanalMaps$CommandText" "place" "I") (List.mem_of_getElem? (i := 1) (by decide +kernel))) (fun _ h9 => h9) rfl dX3_readCommand_8 ?_
    refine lv_aload_n hx hb dX3_readCommand_11 rfl (lv_at hl 0 rfl) ?_
    refine va_get (D := D) (ci := 6) (v := .int ln) (own := RX3) (C := RX3) (T := TX3) (N := 5) hx hb hts hi_X3 hown hK hP 2 rfl rfl 1 (by decide) (hts (.fieldLink RX3 15 "CanalMaps$CommandText" "length" "I") (List.mem_of_getElem? (i := 2) (by decide +kernel))) (fun _ h9 => h9) rfl dX3_readCommand_12 ?_
    refine lv_icmp_ge (tgt := 33) hx hb dX3_readCommand_15 (by decide) (fun c_2 => ?_) (fun c_2 => ?_)
    · rw [if_pos c_2] at hM
      refine lv_null hx hb dX3_readCommand_33 ?_
      refine lv_astore_nN (lv' := [(1, .null), (0, .ref h_T)]) hx hb dX3_readCommand_34 rfl hl (by decide) rfl (fun ls hl => ?_)
      refine lv_aload_nN hx hb dX3_readCommand_35 rfl (lv_at hl 0 rfl) ?_
      refine lv_ifnonnullN hx hb dX3_readCommand_36 ?_
      refine lv_iconst (v := 0) hx hb dX3_readCommand_39 (by decide) ?_
      refine W.widen (k := 0) (n := 0) (Nat.le_of_ble_eq_true rfl) (Nat.le_of_ble_eq_true rfl) ?_
      exact W.zret (v := 0) hx hb hr rfl (QG_.mk (fun _ => 0) (fun _ => 0) (fun _ => 0) [0, 1, 2] [0, 1] hP hD hK hS (by rw [hM]) (by rw [hM]; exact ⟨(show pl.toInt ≤ pl.toInt from (by have y0 := f_nlt c_1; have y1 := f_le c_2; have z0 := hy0; have z1 := hy1; have z2 := hy2; have z3 := hy3; have e011 : (1 : Int32).toInt = 1 := (by decide +kernel); have rw1 := addI (a := pl) (b := 1) (by omega) (by omega); have e_0 : (0 : Int32).toInt = 0 := (by decide +kernel); have b121 := Int32.toInt_lt (pl); have d121 := Int32.le_toInt (pl); omega)), (show (pl.toInt ≤ 60 ∨ pl.toInt = pl.toInt) from (by have y0 := f_nlt c_1; have y1 := f_le c_2; have z0 := hy0; have z1 := hy1; have z2 := hy2; have z3 := hy3; have e011 : (1 : Int32).toInt = 1 := (by decide +kernel); have rw1 := addI (a := pl) (b := 1) (by omega) (by omega); have e_0 : (0 : Int32).toInt = 0 := (by decide +kernel); have b122 := Int32.toInt_lt (pl); have d122 := Int32.le_toInt (pl); have b123 := Int32.toInt_lt (pl); have d123 := Int32.le_toInt (pl); omega)), (show (ch < 6 ∨ ch = ch) from (by have y0 := f_nlt c_1; have y1 := f_le c_2; have z0 := hy0; have z1 := hy1; have z2 := hy2; have z3 := hy3; have e011 : (1 : Int32).toInt = 1 := (by decide +kernel); have rw1 := addI (a := pl) (b := 1) (by omega) (by omega); have e_0 : (0 : Int32).toInt = 0 := (by decide +kernel); omega))⟩) (by first | (rw [hM]; rfl) | rfl) (by decide) rfl) hS.2.2 dX3_readCommand_40
    · rw [if_neg c_2] at hM
      refine lv_aload_n hx hb dX3_readCommand_18 rfl (lv_at hl 0 rfl) ?_
      refine va_get (D := D) (ci := 6) (v := .ref h_sg) (own := RX3) (C := RX3) (T := TX3) (N := 5) hx hb hts hi_X3 hown hK hP 2 rfl rfl 0 (by decide) (hts (.fieldLink RX3 9 "CanalMaps$CommandText" "signs" "[C") (List.mem_of_getElem? (i := 3) (by decide +kernel))) (fun _ h9 => h9) rfl dX3_readCommand_19 ?_
      refine lv_aload_n hx hb dX3_readCommand_22 rfl (lv_at hl 0 rfl) ?_
      refine va_get (D := D) (ci := 6) (v := .int pl) (own := RX3) (C := RX3) (T := TX3) (N := 5) hx hb hts hi_X3 hown hK hP 2 rfl rfl 2 (by decide) (hts (.fieldLink RX3 19 "CanalMaps$CommandText" "place" "I") (List.mem_of_getElem? (i := 1) (by decide +kernel))) (fun _ h9 => h9) rfl dX3_readCommand_23 ?_
      refine va_cald hx hb hK hP 0 0 rfl rfl (vinI (by have y0 := f_nlt c_1; have y1 := f_nle c_2; have z0 := hy0; have z1 := hy1; have z2 := hy2; have z3 := hy3; have e011 : (1 : Int32).toInt = 1 := (by decide +kernel); have rw1 := addI (a := pl) (b := 1) (by omega) (by omega); have e_0 : (0 : Int32).toInt = 0 := (by decide +kernel); have b124 := Int32.toInt_lt (pl); have d124 := Int32.le_toInt (pl); omega) (by have y0 := f_nlt c_1; have y1 := f_nle c_2; have z0 := hy0; have z1 := hy1; have z2 := hy2; have z3 := hy3; have e011 : (1 : Int32).toInt = 1 := (by decide +kernel); have rw1 := addI (a := pl) (b := 1) (by omega) (by omega); have e_0 : (0 : Int32).toInt = 0 := (by decide +kernel); have b124 := Int32.toInt_lt (pl); have d124 := Int32.le_toInt (pl); omega)) dX3_readCommand_26 ?_
      refine kt_ (v := (sg (ix pl))) rfl ?_
      obtain ⟨y9, hy9⟩ : ∃ y9, (F_X2_beginningWith (sg (ix pl))) = y9 := ⟨_, rfl⟩
      have hcon := (c_X2_beginningWith l hl0 D ad H.size (sg (ix pl)))
      rw [hy9] at hcon
      refine kr_ (va_runS (As := [.int (sg (ix pl))]) (rest := []) ⟨hx, hb, hml, hown, hts⟩ hcon (va_cwS 1 hts gX3_readCommand_X2_beginningWith rfl rfl rfl (by decide +kernel) ⟨Nat.le_of_ble_eq_true rfl, Nat.le_of_ble_eq_true rfl⟩) ⟨PR_.blind, PR_.pre hF hK (hP.sub [] rfl) hS hA [] rfl⟩ rfl rfl hl.1 rfl (lv_room (Nat.le_of_ble_eq_true rfl)) dX3_readCommand_27 ⟨(Nat.le_of_ble_eq_true rfl), (Nat.le_of_ble_eq_true rfl)⟩) hP hS hA (fun H locs hP hS => ?_)
      subst hy9
      rcases R_X2_beginningWith (sg (ix pl)) with c_4 | c_4 | c_4 | c_4 | c_4 | c_4 | c_4
      · rw [c_4]
        rw [if_pos c_4] at hM
        refine W.eq (g2 := F0 m 30 ls [.ref (ad 0)]) rfl ?_
        refine lv_goto (tgt := 34) hx hb dX3_readCommand_30 (by decide) ?_
        refine lv_astore_n (lv' := [(1, .ref (ad 0)), (0, .ref h_T)]) hx hb dX3_readCommand_34 rfl hl (by decide) rfl (fun ls hl => ?_)
        refine lv_aload_n hx hb dX3_readCommand_35 rfl (lv_at hl 0 rfl) ?_
        refine lv_ifnonnull (tgt := 41) hx hb dX3_readCommand_36 (by decide) ?_
        refine lv_aload_n hx hb dX3_readCommand_41 rfl (lv_at hl 1 rfl) ?_
        refine lv_aload_n hx hb dX3_readCommand_42 rfl (lv_at hl 0 rfl) ?_
        refine va_put (D := D) (ci := 6) (v := .ref (ad 0)) (ty := tyX3 3) (own := RX3) (C := RX3) (T := TX3) (N := 5) hx hb hts hi_X3 tyX3 tyX3_ok nmX3 hown hK hP hD hS 2 rfl rfl 3 (by decide) (hts (.fieldLink RX3 28 "CanalMaps$CommandText" "change" "LCanalMaps$Change;") (List.mem_of_getElem? (i := 4) (by decide +kernel))) (fun _ h9 => h9) rfl (by decide +kernel) rfl rfl (Nat.le_of_ble_eq_true rfl) dX3_readCommand_43 (fun H locs hP hD hS => ?_)
        have hP : va_P D vwCl [(h_sg, .inl (k_sg, 60, .inl sg)), (h_nu, .inl (k_nu, 3, .inl nu)), (h_T, .inr (6, [.ref h_sg, .int ln, .int pl, .ref (ad 0), .ref h_nu]))] H := hP
        have hD : va_D A [(h_sg, .inl (k_sg, 60, .inl sg)), (h_nu, .inl (k_nu, 3, .inl nu)), (h_T, .inr (6, [.ref h_sg, .int ln, .int pl, .ref (ad 0), .ref h_nu]))] := hD
        refine lv_aload_n hx hb dX3_readCommand_46 rfl (lv_at hl 1 rfl) ?_
        refine lv_dup hx hb dX3_readCommand_47 rfl ?_
        refine va_get (D := D) (ci := 6) (v := .int pl) (own := RX3) (C := RX3) (T := TX3) (N := 5) hx hb hts hi_X3 hown hK hP 2 rfl rfl 2 (by decide) (hts (.fieldLink RX3 19 "CanalMaps$CommandText" "place" "I") (List.mem_of_getElem? (i := 1) (by decide +kernel))) (fun _ h9 => h9) rfl dX3_readCommand_48 ?_
        refine lv_iconst (v := 1) hx hb dX3_readCommand_51 (by decide) ?_
        refine lv_iadd hx hb dX3_readCommand_52 ?_
        refine va_put (D := D) (ci := 6) (v := .int (pl + 1)) (ty := .int) (own := RX3) (C := RX3) (T := TX3) (N := 5) hx hb hts hi_X3 tyX3 tyX3_ok nmX3 hown hK hP hD hS 2 rfl rfl 2 (by decide) (hts (.fieldLink RX3 19 "CanalMaps$CommandText" "place" "I") (List.mem_of_getElem? (i := 1) (by decide +kernel))) (fun _ h9 => h9) rfl (by decide +kernel) rfl rfl (Nat.le_of_ble_eq_true rfl) dX3_readCommand_53 (fun H locs hP hD hS => ?_)
        have hP : va_P D vwCl [(h_sg, .inl (k_sg, 60, .inl sg)), (h_nu, .inl (k_nu, 3, .inl nu)), (h_T, .inr (6, [.ref h_sg, .int ln, .int (pl + 1), .ref (ad 0), .ref h_nu]))] H := hP
        have hD : va_D A [(h_sg, .inl (k_sg, 60, .inl sg)), (h_nu, .inl (k_nu, 3, .inl nu)), (h_T, .inr (6, [.ref h_sg, .int ln, .int (pl + 1), .ref (ad 0), .ref h_nu]))] := hD
        refine lv_aload_n hx hb dX3_readCommand_56 rfl (lv_at hl 1 rfl) ?_
        refine va_get (D := D) (ci := 6) (v := .ref h_nu) (own := RX3) (C := RX3) (T := TX3) (N := 5) hx hb hts hi_X3 hown hK hP 2 rfl rfl 4 (by decide) (hts (.fieldLink RX3 31 "CanalMaps$CommandText" "numbers" "[I") (List.mem_of_getElem? (i := 5) (by decide +kernel))) (fun _ h9 => h9) rfl dX3_readCommand_57 ?_
        refine lv_iconst (v := 0) hx hb dX3_readCommand_60 (by decide) ?_
        obtain ⟨y9, hy9⟩ : ∃ y9, (F_J7_fill_53178 nu 3 0) = y9 := ⟨_, rfl⟩
        have hcon := (c_J7_fill_53178 l hl0 D ad H.size h_nu k_nu 3 nu 0 (by decide +kernel))
        rw [hy9] at hcon
        refine kc_ (wc := [(h_nu, .inl (k_nu, 3, .inl nu))]) (wr := [(h_sg, .inl (k_sg, 60, .inl sg)), (h_T, .inr (6, [.ref h_sg, .int ln, .int (pl + 1), .ref (ad 0), .ref h_nu]))]) (va_runS (As := [.ref h_nu, .int 0]) (rest := []) ⟨hx, hb, hml, hown, hts⟩ hcon (va_cwS 2 hts gX3_readCommand_J7_fill_53178 rfl rfl rfl (by decide +kernel) ⟨Nat.le_of_ble_eq_true rfl, Nat.le_of_ble_eq_true rfl⟩) ⟨PC_.blind, PC_.pre hF hK hP hD hS hA [1] [1] rfl (by decide) rfl⟩ rfl rfl hl.1 rfl (lv_room (Nat.le_of_ble_eq_true rfl)) dX3_readCommand_61 ⟨(Nat.le_of_ble_eq_true rfl), (Nat.le_of_ble_eq_true rfl)⟩) hK hP hD hS hA [1] [0, 2] [0] rfl rfl (by decide) (by decide) rfl (fun qa_5 ka_5 ia H locs hpo hP hD hK hS => ?_)
        subst hy9
        have hP : va_P D vwCl [(h_sg, .inl (k_sg, 60, .inl sg)), (h_T, .inr (6, [.ref h_sg, .int ln, .int (pl + 1), .ref (ad 0), .ref h_nu])), (h_nu, .inl (k_nu, 3, .inl (F_J7_fill_53178 nu 3 0)))] H := hP
        have hD : va_D A [(h_sg, .inl (k_sg, 60, .inl sg)), (h_T, .inr (6, [.ref h_sg, .int ln, .int (pl + 1), .ref (ad 0), .ref h_nu])), (h_nu, .inl (k_nu, 3, .inl (F_J7_fill_53178 nu 3 0)))] := hD
        have hK : va_K D vwCl [(k_sg, .char), (k_nu, .int)] s := hK
        refine W.eq (g2 := F0 m 64 ls []) rfl ?_
        refine lv_aload_n hx hb dX3_readCommand_64 rfl (lv_at hl 1 rfl) ?_
        refine va_get (D := D) (ci := 6) (v := .ref (ad 0)) (own := RX3) (C := RX3) (T := TX3) (N := 5) hx hb hts hi_X3 hown hK hP 1 rfl rfl 3 (by decide) (hts (.fieldLink RX3 28 "CanalMaps$CommandText" "change" "LCanalMaps$Change;") (List.mem_of_getElem? (i := 4) (by decide +kernel))) (fun _ h9 => h9) rfl dX3_readCommand_65 ?_
        refine kgetfN_ (o := "CanalMaps$Change") (n := "form") (d := "Ljava/lang/String;") (q := ad 0) (v := .ref (ad 20)) hx hb (fxfo_ hF 0 (by decide)) hS hown (fxn_ hF (RX3, 58, "CanalMaps$Change", "form", "Ljava/lang/String;")) (fun _ h9 => h9) dX3_readCommand_68 ?_
        refine lv_astore_n (lv' := [(2, .ref (ad 20)), (1, .ref (ad 0)), (0, .ref h_T)]) hx hb dX3_readCommand_71 rfl hl (by decide) rfl (fun ls hl => ?_)
        refine lv_iconst (v := 0) hx hb dX3_readCommand_72 (by decide) ?_
        refine lv_istore_n (lv' := [(3, .int 0), (2, .ref (ad 20)), (1, .ref (ad 0)), (0, .ref h_T)]) hx hb dX3_readCommand_73 rfl hl (by decide) rfl (fun ls hl => ?_)
        refine lv_iload_n hx hb dX3_readCommand_74 rfl (lv_at hl 0 rfl) ?_
        refine lv_aload_n hx hb dX3_readCommand_75 rfl (lv_at hl 1 rfl) ?_
        refine kr_ (va_runV (As := []) (rest := [.int 0]) ⟨hx, hb, hml, hown, hts⟩ (c_J0_length_8abf5_ad20 l hl0 D ad H.size) (cwV 0 hts gX3_readCommand_J0_length_8abf5 rfl rfl rfl (by decide +kernel) ⟨Nat.le_of_ble_eq_true rfl, Nat.le_of_ble_eq_true rfl⟩) ⟨PR_.blind, vk_recv (fxst_ hF) (i := 0) (by decide) hS, PR_.pre hF hK (hP.sub [] rfl) hS hA [] rfl⟩ rfl rfl hl.1 rfl (lv_room (Nat.le_of_ble_eq_true rfl)) dX3_readCommand_76 ⟨(Nat.le_of_ble_eq_true rfl), (Nat.le_of_ble_eq_true rfl)⟩) hP hS hA (fun H locs hP hS => ?_)
        refine W.eq (g2 := F0 m 79 ls [.int 0, .int 0]) rfl ?_
        refine lv_icmp_ge (tgt := 102) hx hb dX3_readCommand_79 (by decide) (fun _ => ?_) (fun c9 => absurd (by decide +kernel) c9)
        refine lv_aload_n hx hb dX3_readCommand_102 rfl (lv_at hl 3 rfl) ?_
        refine va_get (D := D) (ci := 6) (v := .int (pl + 1)) (own := RX3) (C := RX3) (T := TX3) (N := 5) hx hb hts hi_X3 hown hK hP 1 rfl rfl 2 (by decide) (hts (.fieldLink RX3 19 "CanalMaps$CommandText" "place" "I") (List.mem_of_getElem? (i := 1) (by decide +kernel))) (fun _ h9 => h9) rfl dX3_readCommand_103 ?_
        refine lv_aload_n hx hb dX3_readCommand_106 rfl (lv_at hl 3 rfl) ?_
        refine va_get (D := D) (ci := 6) (v := .int ln) (own := RX3) (C := RX3) (T := TX3) (N := 5) hx hb hts hi_X3 hown hK hP 1 rfl rfl 1 (by decide) (hts (.fieldLink RX3 15 "CanalMaps$CommandText" "length" "I") (List.mem_of_getElem? (i := 2) (by decide +kernel))) (fun _ h9 => h9) rfl dX3_readCommand_107 ?_
        refine lv_icmp_ge (tgt := 127) hx hb dX3_readCommand_110 (by decide) (fun c_7 => ?_) (fun c_7 => ?_)
        · rw [if_pos c_7] at hM
          refine lv_iconst (v := 1) hx hb dX3_readCommand_127 (by decide) ?_
          refine lv_goto (tgt := 132) hx hb dX3_readCommand_128 (by decide) ?_
          refine W.widen (k := 0) (n := 0) (Nat.le_of_ble_eq_true rfl) (Nat.le_of_ble_eq_true rfl) ?_
          exact W.zret (v := 1) hx hb hr rfl (QG_.mk (fun _ => 0) (fun _ => 0) (fun _ => 0) [0, 2, 1] [0, 1] hP hD hK hS (by rw [hM]) (by rw [hM]; exact ⟨(show pl.toInt ≤ (pl + 1).toInt from (by have y0 := f_nlt c_1; have y1 := f_nle c_2; have y2 := f_le c_7; have z0 := hy0; have z1 := hy1; have z2 := hy2; have z3 := hy3; have e011 : (1 : Int32).toInt = 1 := (by decide +kernel); have rw1 := addI (a := pl) (b := 1) (by omega) (by omega); have e_0 : (0 : Int32).toInt = 0 := (by decide +kernel); have b126 := Int32.toInt_lt (pl); have d126 := Int32.le_toInt (pl); have l127 : (1 : Int32).toInt = 1 := (by decide +kernel); have q125 := addI (a := pl) (b := 1) (by omega) (by omega); omega)), (show ((pl + 1).toInt ≤ 60 ∨ (pl + 1).toInt = pl.toInt) from (by have y0 := f_nlt c_1; have y1 := f_nle c_2; have y2 := f_le c_7; have z0 := hy0; have z1 := hy1; have z2 := hy2; have z3 := hy3; have e011 : (1 : Int32).toInt = 1 := (by decide +kernel); have rw1 := addI (a := pl) (b := 1) (by omega) (by omega); have e_0 : (0 : Int32).toInt = 0 := (by decide +kernel); have b129 := Int32.toInt_lt (pl); have d129 := Int32.le_toInt (pl); have l130 : (1 : Int32).toInt = 1 := (by decide +kernel); have q128 := addI (a := pl) (b := 1) (by omega) (by omega); have b132 := Int32.toInt_lt (pl); have d132 := Int32.le_toInt (pl); have l133 : (1 : Int32).toInt = 1 := (by decide +kernel); have q131 := addI (a := pl) (b := 1) (by omega) (by omega); omega)), (show (0 < 6 ∨ 0 = ch) from (by have y0 := f_nlt c_1; have y1 := f_nle c_2; have y2 := f_le c_7; have z0 := hy0; have z1 := hy1; have z2 := hy2; have z3 := hy3; have e011 : (1 : Int32).toInt = 1 := (by decide +kernel); have rw1 := addI (a := pl) (b := 1) (by omega) (by omega); have e_0 : (0 : Int32).toInt = 0 := (by decide +kernel); omega))⟩) (by first | (rw [hM]; rfl) | rfl) (by decide) rfl) hS.2.2 dX3_readCommand_132
        · rw [if_neg c_7] at hM
          refine lv_aload_n hx hb dX3_readCommand_113 rfl (lv_at hl 3 rfl) ?_
          refine va_get (D := D) (ci := 6) (v := .ref h_sg) (own := RX3) (C := RX3) (T := TX3) (N := 5) hx hb hts hi_X3 hown hK hP 1 rfl rfl 0 (by decide) (hts (.fieldLink RX3 9 "CanalMaps$CommandText" "signs" "[C") (List.mem_of_getElem? (i := 3) (by decide +kernel))) (fun _ h9 => h9) rfl dX3_readCommand_114 ?_
          refine lv_aload_n hx hb dX3_readCommand_117 rfl (lv_at hl 3 rfl) ?_
          refine va_get (D := D) (ci := 6) (v := .int (pl + 1)) (own := RX3) (C := RX3) (T := TX3) (N := 5) hx hb hts hi_X3 hown hK hP 1 rfl rfl 2 (by decide) (hts (.fieldLink RX3 19 "CanalMaps$CommandText" "place" "I") (List.mem_of_getElem? (i := 1) (by decide +kernel))) (fun _ h9 => h9) rfl dX3_readCommand_118 ?_
          refine va_cald hx hb hK hP 0 0 rfl rfl (vinI (by have y0 := f_nlt c_1; have y1 := f_nle c_2; have y2 := f_nle c_7; have z0 := hy0; have z1 := hy1; have z2 := hy2; have z3 := hy3; have e011 : (1 : Int32).toInt = 1 := (by decide +kernel); have rw1 := addI (a := pl) (b := 1) (by omega) (by omega); have e_0 : (0 : Int32).toInt = 0 := (by decide +kernel); have b135 := Int32.toInt_lt (pl); have d135 := Int32.le_toInt (pl); have l136 : (1 : Int32).toInt = 1 := (by decide +kernel); have q134 := addI (a := pl) (b := 1) (by omega) (by omega); omega) (by have y0 := f_nlt c_1; have y1 := f_nle c_2; have y2 := f_nle c_7; have z0 := hy0; have z1 := hy1; have z2 := hy2; have z3 := hy3; have e011 : (1 : Int32).toInt = 1 := (by decide +kernel); have rw1 := addI (a := pl) (b := 1) (by omega) (by omega); have e_0 : (0 : Int32).toInt = 0 := (by decide +kernel); have b135 := Int32.toInt_lt (pl); have d135 := Int32.le_toInt (pl); have l136 : (1 : Int32).toInt = 1 := (by decide +kernel); have q134 := addI (a := pl) (b := 1) (by omega) (by omega); omega)) dX3_readCommand_121 ?_
          refine kt_ (v := (sg (ix (pl + 1)))) rfl ?_
          refine lv_bipush (v := 59) hx hb dX3_readCommand_122 (by decide) ?_
          refine lv_icmp_ne (tgt := 131) hx hb dX3_readCommand_124 (by decide) (fun c_8 => ?_) (fun c_8 => ?_)
          · rw [if_neg c_8] at hM
            refine lv_iconst (v := 0) hx hb dX3_readCommand_131 (by decide) ?_
            refine W.widen (k := 0) (n := 0) (Nat.le_of_ble_eq_true rfl) (Nat.le_of_ble_eq_true rfl) ?_
            exact W.zret (v := 0) hx hb hr rfl (QG_.mk (fun _ => 0) (fun _ => 0) (fun _ => 0) [0, 2, 1] [0, 1] hP hD hK hS (by rw [hM]) (by rw [hM]; exact ⟨(show pl.toInt ≤ (pl + 1).toInt from (by have y0 := f_nlt c_1; have y1 := f_nle c_2; have y2 := f_nle c_7; have y3 := f_neq c_8; have z0 := hy0; have z1 := hy1; have z2 := hy2; have z3 := hy3; have e011 : (1 : Int32).toInt = 1 := (by decide +kernel); have rw1 := addI (a := pl) (b := 1) (by omega) (by omega); have e_0 : (0 : Int32).toInt = 0 := (by decide +kernel); have e_59 : (59 : Int32).toInt = 59 := (by decide +kernel); have b138 := Int32.toInt_lt (pl); have d138 := Int32.le_toInt (pl); have l139 : (1 : Int32).toInt = 1 := (by decide +kernel); have q137 := addI (a := pl) (b := 1) (by omega) (by omega); have x0 := ix_toNat (pl + 1); omega)), (show ((pl + 1).toInt ≤ 60 ∨ (pl + 1).toInt = pl.toInt) from (by have y0 := f_nlt c_1; have y1 := f_nle c_2; have y2 := f_nle c_7; have y3 := f_neq c_8; have z0 := hy0; have z1 := hy1; have z2 := hy2; have z3 := hy3; have e011 : (1 : Int32).toInt = 1 := (by decide +kernel); have rw1 := addI (a := pl) (b := 1) (by omega) (by omega); have e_0 : (0 : Int32).toInt = 0 := (by decide +kernel); have e_59 : (59 : Int32).toInt = 59 := (by decide +kernel); have b141 := Int32.toInt_lt (pl); have d141 := Int32.le_toInt (pl); have l142 : (1 : Int32).toInt = 1 := (by decide +kernel); have q140 := addI (a := pl) (b := 1) (by omega) (by omega); have b144 := Int32.toInt_lt (pl); have d144 := Int32.le_toInt (pl); have l145 : (1 : Int32).toInt = 1 := (by decide +kernel); have q143 := addI (a := pl) (b := 1) (by omega) (by omega); have x0 := ix_toNat (pl + 1); omega)), (show (0 < 6 ∨ 0 = ch) from (by have y0 := f_nlt c_1; have y1 := f_nle c_2; have y2 := f_nle c_7; have y3 := f_neq c_8; have z0 := hy0; have z1 := hy1; have z2 := hy2; have z3 := hy3; have e011 : (1 : Int32).toInt = 1 := (by decide +kernel); have rw1 := addI (a := pl) (b := 1) (by omega) (by omega); have e_0 : (0 : Int32).toInt = 0 := (by decide +kernel); have e_59 : (59 : Int32).toInt = 59 := (by decide +kernel); have x0 := ix_toNat (pl + 1); omega))⟩) (by first | (rw [hM]; rfl) | rfl) (by decide) rfl) hS.2.2 dX3_readCommand_132
          · rw [if_pos c_8] at hM
            refine lv_iconst (v := 1) hx hb dX3_readCommand_127 (by decide) ?_
            refine lv_goto (tgt := 132) hx hb dX3_readCommand_128 (by decide) ?_
            refine W.widen (k := 0) (n := 0) (Nat.le_of_ble_eq_true rfl) (Nat.le_of_ble_eq_true rfl) ?_
            exact W.zret (v := 1) hx hb hr rfl (QG_.mk (fun _ => 0) (fun _ => 0) (fun _ => 0) [0, 2, 1] [0, 1] hP hD hK hS (by rw [hM]) (by rw [hM]; exact ⟨(show pl.toInt ≤ (pl + 1).toInt from (by have y0 := f_nlt c_1; have y1 := f_nle c_2; have y2 := f_nle c_7; have y3 := f_eq c_8; have z0 := hy0; have z1 := hy1; have z2 := hy2; have z3 := hy3; have e011 : (1 : Int32).toInt = 1 := (by decide +kernel); have rw1 := addI (a := pl) (b := 1) (by omega) (by omega); have e_0 : (0 : Int32).toInt = 0 := (by decide +kernel); have e_59 : (59 : Int32).toInt = 59 := (by decide +kernel); have b147 := Int32.toInt_lt (pl); have d147 := Int32.le_toInt (pl); have l148 : (1 : Int32).toInt = 1 := (by decide +kernel); have q146 := addI (a := pl) (b := 1) (by omega) (by omega); have x0 := ix_toNat (pl + 1); omega)), (show ((pl + 1).toInt ≤ 60 ∨ (pl + 1).toInt = pl.toInt) from (by have y0 := f_nlt c_1; have y1 := f_nle c_2; have y2 := f_nle c_7; have y3 := f_eq c_8; have z0 := hy0; have z1 := hy1; have z2 := hy2; have z3 := hy3; have e011 : (1 : Int32).toInt = 1 := (by decide +kernel); have rw1 := addI (a := pl) (b := 1) (by omega) (by omega); have e_0 : (0 : Int32).toInt = 0 := (by decide +kernel); have e_59 : (59 : Int32).toInt = 59 := (by decide +kernel); have b150 := Int32.toInt_lt (pl); have d150 := Int32.le_toInt (pl); have l151 : (1 : Int32).toInt = 1 := (by decide +kernel); have q149 := addI (a := pl) (b := 1) (by omega) (by omega); have b153 := Int32.toInt_lt (pl); have d153 := Int32.le_toInt (pl); have l154 : (1 : Int32).toInt = 1 := (by decide +kernel); have q152 := addI (a := pl) (b := 1) (by omega) (by omega); have x0 := ix_toNat (pl + 1); omega)), (show (0 < 6 ∨ 0 = ch) from (by have y0 := f_nlt c_1; have y1 := f_nle c_2; have y2 := f_nle c_7; have y3 := f_eq c_8; have z0 := hy0; have z1 := hy1; have z2 := hy2; have z3 := hy3; have e011 : (1 : Int32).toInt = 1 := (by decide +kernel); have rw1 := addI (a := pl) (b := 1) (by omega) (by omega); have e_0 : (0 : Int32).toInt = 0 := (by decide +kernel); have e_59 : (59 : Int32).toInt = 59 := (by decide +kernel); have x0 := ix_toNat (pl + 1); omega))⟩) (by first | (rw [hM]; rfl) | rfl) (by decide) rfl) hS.2.2 dX3_readCommand_132
      · rw [c_4]
        rw [if_neg (show ¬ (F_X2_beginningWith (sg (ix pl))) = 0 from by rw [c_4]; decide)] at hM
        rw [if_pos c_4] at hM
        refine W.eq (g2 := F0 m 30 ls [.ref (ad 1)]) rfl ?_
        refine lv_goto (tgt := 34) hx hb dX3_readCommand_30 (by decide) ?_
        refine lv_astore_n (lv' := [(1, .ref (ad 1)), (0, .ref h_T)]) hx hb dX3_readCommand_34 rfl hl (by decide) rfl (fun ls hl => ?_)
        refine lv_aload_n hx hb dX3_readCommand_35 rfl (lv_at hl 0 rfl) ?_
        refine lv_ifnonnull (tgt := 41) hx hb dX3_readCommand_36 (by decide) ?_
        refine lv_aload_n hx hb dX3_readCommand_41 rfl (lv_at hl 1 rfl) ?_
        refine lv_aload_n hx hb dX3_readCommand_42 rfl (lv_at hl 0 rfl) ?_
        refine va_put (D := D) (ci := 6) (v := .ref (ad 1)) (ty := tyX3 3) (own := RX3) (C := RX3) (T := TX3) (N := 5) hx hb hts hi_X3 tyX3 tyX3_ok nmX3 hown hK hP hD hS 2 rfl rfl 3 (by decide) (hts (.fieldLink RX3 28 "CanalMaps$CommandText" "change" "LCanalMaps$Change;") (List.mem_of_getElem? (i := 4) (by decide +kernel))) (fun _ h9 => h9) rfl (by decide +kernel) rfl rfl (Nat.le_of_ble_eq_true rfl) dX3_readCommand_43 (fun H locs hP hD hS => ?_)
        have hP : va_P D vwCl [(h_sg, .inl (k_sg, 60, .inl sg)), (h_nu, .inl (k_nu, 3, .inl nu)), (h_T, .inr (6, [.ref h_sg, .int ln, .int pl, .ref (ad 1), .ref h_nu]))] H := hP
        have hD : va_D A [(h_sg, .inl (k_sg, 60, .inl sg)), (h_nu, .inl (k_nu, 3, .inl nu)), (h_T, .inr (6, [.ref h_sg, .int ln, .int pl, .ref (ad 1), .ref h_nu]))] := hD
        refine lv_aload_n hx hb dX3_readCommand_46 rfl (lv_at hl 1 rfl) ?_
        refine lv_dup hx hb dX3_readCommand_47 rfl ?_
        refine va_get (D := D) (ci := 6) (v := .int pl) (own := RX3) (C := RX3) (T := TX3) (N := 5) hx hb hts hi_X3 hown hK hP 2 rfl rfl 2 (by decide) (hts (.fieldLink RX3 19 "CanalMaps$CommandText" "place" "I") (List.mem_of_getElem? (i := 1) (by decide +kernel))) (fun _ h9 => h9) rfl dX3_readCommand_48 ?_
        refine lv_iconst (v := 1) hx hb dX3_readCommand_51 (by decide) ?_
        refine lv_iadd hx hb dX3_readCommand_52 ?_
        refine va_put (D := D) (ci := 6) (v := .int (pl + 1)) (ty := .int) (own := RX3) (C := RX3) (T := TX3) (N := 5) hx hb hts hi_X3 tyX3 tyX3_ok nmX3 hown hK hP hD hS 2 rfl rfl 2 (by decide) (hts (.fieldLink RX3 19 "CanalMaps$CommandText" "place" "I") (List.mem_of_getElem? (i := 1) (by decide +kernel))) (fun _ h9 => h9) rfl (by decide +kernel) rfl rfl (Nat.le_of_ble_eq_true rfl) dX3_readCommand_53 (fun H locs hP hD hS => ?_)
        have hP : va_P D vwCl [(h_sg, .inl (k_sg, 60, .inl sg)), (h_nu, .inl (k_nu, 3, .inl nu)), (h_T, .inr (6, [.ref h_sg, .int ln, .int (pl + 1), .ref (ad 1), .ref h_nu]))] H := hP
        have hD : va_D A [(h_sg, .inl (k_sg, 60, .inl sg)), (h_nu, .inl (k_nu, 3, .inl nu)), (h_T, .inr (6, [.ref h_sg, .int ln, .int (pl + 1), .ref (ad 1), .ref h_nu]))] := hD
        refine lv_aload_n hx hb dX3_readCommand_56 rfl (lv_at hl 1 rfl) ?_
        refine va_get (D := D) (ci := 6) (v := .ref h_nu) (own := RX3) (C := RX3) (T := TX3) (N := 5) hx hb hts hi_X3 hown hK hP 2 rfl rfl 4 (by decide) (hts (.fieldLink RX3 31 "CanalMaps$CommandText" "numbers" "[I") (List.mem_of_getElem? (i := 5) (by decide +kernel))) (fun _ h9 => h9) rfl dX3_readCommand_57 ?_
        refine lv_iconst (v := 0) hx hb dX3_readCommand_60 (by decide) ?_
        obtain ⟨y9, hy9⟩ : ∃ y9, (F_J7_fill_53178 nu 3 0) = y9 := ⟨_, rfl⟩
        have hcon := (c_J7_fill_53178 l hl0 D ad H.size h_nu k_nu 3 nu 0 (by decide +kernel))
        rw [hy9] at hcon
        refine kc_ (wc := [(h_nu, .inl (k_nu, 3, .inl nu))]) (wr := [(h_sg, .inl (k_sg, 60, .inl sg)), (h_T, .inr (6, [.ref h_sg, .int ln, .int (pl + 1), .ref (ad 1), .ref h_nu]))]) (va_runS (As := [.ref h_nu, .int 0]) (rest := []) ⟨hx, hb, hml, hown, hts⟩ hcon (va_cwS 2 hts gX3_readCommand_J7_fill_53178 rfl rfl rfl (by decide +kernel) ⟨Nat.le_of_ble_eq_true rfl, Nat.le_of_ble_eq_true rfl⟩) ⟨PC_.blind, PC_.pre hF hK hP hD hS hA [1] [1] rfl (by decide) rfl⟩ rfl rfl hl.1 rfl (lv_room (Nat.le_of_ble_eq_true rfl)) dX3_readCommand_61 ⟨(Nat.le_of_ble_eq_true rfl), (Nat.le_of_ble_eq_true rfl)⟩) hK hP hD hS hA [1] [0, 2] [0] rfl rfl (by decide) (by decide) rfl (fun qa_9 ka_9 ia H locs hpo hP hD hK hS => ?_)
        subst hy9
        have hP : va_P D vwCl [(h_sg, .inl (k_sg, 60, .inl sg)), (h_T, .inr (6, [.ref h_sg, .int ln, .int (pl + 1), .ref (ad 1), .ref h_nu])), (h_nu, .inl (k_nu, 3, .inl (F_J7_fill_53178 nu 3 0)))] H := hP
        have hD : va_D A [(h_sg, .inl (k_sg, 60, .inl sg)), (h_T, .inr (6, [.ref h_sg, .int ln, .int (pl + 1), .ref (ad 1), .ref h_nu])), (h_nu, .inl (k_nu, 3, .inl (F_J7_fill_53178 nu 3 0)))] := hD
        have hK : va_K D vwCl [(k_sg, .char), (k_nu, .int)] s := hK
        refine W.eq (g2 := F0 m 64 ls []) rfl ?_
        refine lv_aload_n hx hb dX3_readCommand_64 rfl (lv_at hl 1 rfl) ?_
        refine va_get (D := D) (ci := 6) (v := .ref (ad 1)) (own := RX3) (C := RX3) (T := TX3) (N := 5) hx hb hts hi_X3 hown hK hP 1 rfl rfl 3 (by decide) (hts (.fieldLink RX3 28 "CanalMaps$CommandText" "change" "LCanalMaps$Change;") (List.mem_of_getElem? (i := 4) (by decide +kernel))) (fun _ h9 => h9) rfl dX3_readCommand_65 ?_
        refine kgetfN_ (o := "CanalMaps$Change") (n := "form") (d := "Ljava/lang/String;") (q := ad 1) (v := .ref (ad 21)) hx hb (fxfo_ hF 1 (by decide)) hS hown (fxn_ hF (RX3, 58, "CanalMaps$Change", "form", "Ljava/lang/String;")) (fun _ h9 => h9) dX3_readCommand_68 ?_
        refine lv_astore_n (lv' := [(2, .ref (ad 21)), (1, .ref (ad 1)), (0, .ref h_T)]) hx hb dX3_readCommand_71 rfl hl (by decide) rfl (fun ls hl => ?_)
        refine lv_iconst (v := 0) hx hb dX3_readCommand_72 (by decide) ?_
        refine lv_istore_n (lv' := [(3, .int 0), (2, .ref (ad 21)), (1, .ref (ad 1)), (0, .ref h_T)]) hx hb dX3_readCommand_73 rfl hl (by decide) rfl (fun ls hl => ?_)
        refine lv_iload_n hx hb dX3_readCommand_74 rfl (lv_at hl 0 rfl) ?_
        refine lv_aload_n hx hb dX3_readCommand_75 rfl (lv_at hl 1 rfl) ?_
        refine kr_ (va_runV (As := []) (rest := [.int 0]) ⟨hx, hb, hml, hown, hts⟩ (c_J0_length_8abf5_ad21 l hl0 D ad H.size) (cwV 0 hts gX3_readCommand_J0_length_8abf5 rfl rfl rfl (by decide +kernel) ⟨Nat.le_of_ble_eq_true rfl, Nat.le_of_ble_eq_true rfl⟩) ⟨PR_.blind, vk_recv (fxst_ hF) (i := 1) (by decide) hS, PR_.pre hF hK (hP.sub [] rfl) hS hA [] rfl⟩ rfl rfl hl.1 rfl (lv_room (Nat.le_of_ble_eq_true rfl)) dX3_readCommand_76 ⟨(Nat.le_of_ble_eq_true rfl), (Nat.le_of_ble_eq_true rfl)⟩) hP hS hA (fun H locs hP hS => ?_)
        refine W.eq (g2 := F0 m 79 ls [.int 4, .int 0]) rfl ?_
        refine lv_icmp_ge (tgt := 102) hx hb dX3_readCommand_79 (by decide) (fun c9 => absurd c9 (by decide +kernel)) (fun _ => ?_)
        refine lv_aload_n hx hb dX3_readCommand_82 rfl (lv_at hl 3 rfl) ?_
        refine lv_aload_n hx hb dX3_readCommand_83 rfl (lv_at hl 1 rfl) ?_
        refine lv_iload_n hx hb dX3_readCommand_84 rfl (lv_at hl 0 rfl) ?_
        refine kr_ (va_runV (As := [.int 0]) (rest := [.ref h_T]) ⟨hx, hb, hml, hown, hts⟩ (c_J0_charAt_5068e_0_ad21 l hl0 D ad H.size) (cwV 1 hts gX3_readCommand_J0_charAt_5068e rfl rfl rfl (by decide +kernel) ⟨Nat.le_of_ble_eq_true rfl, Nat.le_of_ble_eq_true rfl⟩) ⟨PR_.blind, vk_recv (fxst_ hF) (i := 1) (by decide) hS, PR_.pre hF hK (hP.sub [] rfl) hS hA [] rfl⟩ rfl rfl hl.1 rfl (lv_room (Nat.le_of_ble_eq_true rfl)) dX3_readCommand_85 ⟨(Nat.le_of_ble_eq_true rfl), (Nat.le_of_ble_eq_true rfl)⟩) hP hS hA (fun H locs hP hS => ?_)
        refine W.eq (g2 := F0 m 88 ls [.int 48, .ref h_T]) rfl ?_
        have hcon := (c_X3_readPart_48 l hl0 D ad H.size h_sg h_nu h_T k_sg k_nu (.ref (ad 1)) sg (F_J7_fill_53178 nu 3 0) ln (pl + 1) (by have y0 := f_nlt c_1; have y1 := f_nle c_2; have z0 := hy0; have z1 := hy1; have z2 := hy2; have z3 := hy3; have e011 : (1 : Int32).toInt = 1 := (by decide +kernel); have rw1 := addI (a := pl) (b := 1) (by omega) (by omega); have e_0 : (0 : Int32).toInt = 0 := (by decide +kernel); omega) (by have y0 := f_nlt c_1; have y1 := f_nle c_2; have z0 := hy0; have z1 := hy1; have z2 := hy2; have z3 := hy3; have e011 : (1 : Int32).toInt = 1 := (by decide +kernel); have rw1 := addI (a := pl) (b := 1) (by omega) (by omega); have e_0 : (0 : Int32).toInt = 0 := (by decide +kernel); omega) (by have y0 := f_nlt c_1; have y1 := f_nle c_2; have z0 := hy0; have z1 := hy1; have z2 := hy2; have z3 := hy3; have e011 : (1 : Int32).toInt = 1 := (by decide +kernel); have rw1 := addI (a := pl) (b := 1) (by omega) (by omega); have e_0 : (0 : Int32).toInt = 0 := (by decide +kernel); have b156 := Int32.toInt_lt (pl); have d156 := Int32.le_toInt (pl); have l157 : (1 : Int32).toInt = 1 := (by decide +kernel); have q155 := addI (a := pl) (b := 1) (by omega) (by omega); omega) (by have y0 := f_nlt c_1; have y1 := f_nle c_2; have z0 := hy0; have z1 := hy1; have z2 := hy2; have z3 := hy3; have e011 : (1 : Int32).toInt = 1 := (by decide +kernel); have rw1 := addI (a := pl) (b := 1) (by omega) (by omega); have e_0 : (0 : Int32).toInt = 0 := (by decide +kernel); have b159 := Int32.toInt_lt (pl); have d159 := Int32.le_toInt (pl); have l160 : (1 : Int32).toInt = 1 := (by decide +kernel); have q158 := addI (a := pl) (b := 1) (by omega) (by omega); omega))
        generalize hy_12 : (F_X3_readPart_48 sg ln (pl + 1) (F_J7_fill_53178 nu 3 0)) = y9 at hcon hM
        obtain ⟨y88_0, y88_1, y88_2⟩ := y9
        refine kc_ (wc := [(h_sg, .inl (k_sg, 60, .inl sg)), (h_nu, .inl (k_nu, 3, .inl (F_J7_fill_53178 nu 3 0))), (h_T, .inr (6, [.ref h_sg, .int ln, .int (pl + 1), .ref (ad 1), .ref h_nu]))]) (wr := []) (va_runV (As := [.int 48]) (rest := []) ⟨hx, hb, hml, hown, hts⟩ hcon (cwV 1 hts gX3_readCommand_X3_readPart rfl rfl rfl (by decide +kernel) ⟨Nat.le_of_ble_eq_true rfl, Nat.le_of_ble_eq_true rfl⟩) ⟨PC_.blind, va_recv hK hP (ci := 6) (q0 := 1) rfl rfl, PC_.pre hF hK hP hD hS hA [0, 2, 1] [0, 1] rfl (by decide) rfl⟩ rfl rfl hl.1 rfl (lv_room (Nat.le_of_ble_eq_true rfl)) dX3_readCommand_88 ⟨(Nat.le_of_ble_eq_true rfl), (Nat.le_of_ble_eq_true rfl)⟩) hK hP hD hS hA [0, 2, 1] [] [] rfl rfl (by decide) (by decide) rfl (fun qa_12 ka_12 ia H locs hpo hP hD hK hS => ?_)
        have hM : F_X3_readCommand sg ln pl ch nu = (if y88_0 = 0 then (0, y88_1, y88_2, 1) else (K_X3_readCommand_88_1 sg ln (F_X3_readPart_49 sg ln y88_2 y88_1))) := hM
        have hen_12 : (pl + 1).toInt ≤ y88_2.toInt ∧ y88_2.toInt ≤ (pl + 1).toInt + 1 ∧ (y88_2.toInt ≤ 60 ∨ y88_2.toInt = (pl + 1).toInt) := hpo
        have hP : va_P D vwCl [(h_sg, .inl (k_sg, 60, .inl sg)), (h_nu, .inl (k_nu, 3, .inl y88_1)), (h_T, .inr (6, [.ref h_sg, .int ln, .int y88_2, .ref (ad 1), .ref h_nu]))] H := hP
        have hD : va_D A [(h_sg, .inl (k_sg, 60, .inl sg)), (h_nu, .inl (k_nu, 3, .inl y88_1)), (h_T, .inr (6, [.ref h_sg, .int ln, .int y88_2, .ref (ad 1), .ref h_nu]))] := hD
        have hK : va_K D vwCl [(k_sg, .char), (k_nu, .int)] s := hK
        refine W.eq (g2 := F0 m 91 ls [.int y88_0]) rfl ?_
        refine lv_if_ne (tgt := 96) hx hb dX3_readCommand_91 (by decide) (fun c_13 => ?_) (fun c_13 => ?_)
        · rw [if_neg c_13] at hM
          refine lv_iinc (v := 1) (lv' := [(3, .int 1), (2, .ref (ad 21)), (1, .ref (ad 1)), (0, .ref h_T)]) hx hb dX3_readCommand_96 hl (k := 0) rfl (by decide +kernel) (by decide) rfl (fun ls hl => ?_)
          refine lv_goto (tgt := 74) hx hb dX3_readCommand_99 (by decide) ?_
          refine lv_iload_n hx hb dX3_readCommand_74 rfl (lv_at hl 0 rfl) ?_
          refine lv_aload_n hx hb dX3_readCommand_75 rfl (lv_at hl 1 rfl) ?_
          refine kr_ (va_runV (As := []) (rest := [.int 1]) ⟨hx, hb, hml, hown, hts⟩ (c_J0_length_8abf5_ad21 l hl0 D ad H.size) (cwV 0 hts gX3_readCommand_J0_length_8abf5 rfl rfl rfl (by decide +kernel) ⟨Nat.le_of_ble_eq_true rfl, Nat.le_of_ble_eq_true rfl⟩) ⟨PR_.blind, vk_recv (fxst_ hF) (i := 1) (by decide) hS, PR_.pre hF hK (hP.sub [] rfl) hS hA [] rfl⟩ rfl rfl hl.1 rfl (lv_room (Nat.le_of_ble_eq_true rfl)) dX3_readCommand_76 ⟨(Nat.le_of_ble_eq_true rfl), (Nat.le_of_ble_eq_true rfl)⟩) hP hS hA (fun H locs hP hS => ?_)
          refine W.eq (g2 := F0 m 79 ls [.int 4, .int 1]) rfl ?_
          refine lv_icmp_ge (tgt := 102) hx hb dX3_readCommand_79 (by decide) (fun c9 => absurd c9 (by decide +kernel)) (fun _ => ?_)
          refine lv_aload_n hx hb dX3_readCommand_82 rfl (lv_at hl 3 rfl) ?_
          refine lv_aload_n hx hb dX3_readCommand_83 rfl (lv_at hl 1 rfl) ?_
          refine lv_iload_n hx hb dX3_readCommand_84 rfl (lv_at hl 0 rfl) ?_
          refine kr_ (va_runV (As := [.int 1]) (rest := [.ref h_T]) ⟨hx, hb, hml, hown, hts⟩ (c_J0_charAt_5068e_1_ad21 l hl0 D ad H.size) (cwV 1 hts gX3_readCommand_J0_charAt_5068e rfl rfl rfl (by decide +kernel) ⟨Nat.le_of_ble_eq_true rfl, Nat.le_of_ble_eq_true rfl⟩) ⟨PR_.blind, vk_recv (fxst_ hF) (i := 1) (by decide) hS, PR_.pre hF hK (hP.sub [] rfl) hS hA [] rfl⟩ rfl rfl hl.1 rfl (lv_room (Nat.le_of_ble_eq_true rfl)) dX3_readCommand_85 ⟨(Nat.le_of_ble_eq_true rfl), (Nat.le_of_ble_eq_true rfl)⟩) hP hS hA (fun H locs hP hS => ?_)
          refine W.eq (g2 := F0 m 88 ls [.int 49, .ref h_T]) rfl ?_
          have hcon := (c_X3_readPart_49 l hl0 D ad H.size h_sg h_nu h_T k_sg k_nu (.ref (ad 1)) sg y88_1 ln y88_2 (by have y0 := f_nlt c_1; have y1 := f_nle c_2; have y2 := f_neq c_13; have z0 := hy0; have z1 := hy1; have z2 := hy2; have z3 := hy3; have z4 := hen_12; have e011 : (1 : Int32).toInt = 1 := (by decide +kernel); have rw1 := addI (a := pl) (b := 1) (by omega) (by omega); have e_0 : (0 : Int32).toInt = 0 := (by decide +kernel); omega) (by have y0 := f_nlt c_1; have y1 := f_nle c_2; have y2 := f_neq c_13; have z0 := hy0; have z1 := hy1; have z2 := hy2; have z3 := hy3; have z4 := hen_12; have e011 : (1 : Int32).toInt = 1 := (by decide +kernel); have rw1 := addI (a := pl) (b := 1) (by omega) (by omega); have e_0 : (0 : Int32).toInt = 0 := (by decide +kernel); omega) (by have y0 := f_nlt c_1; have y1 := f_nle c_2; have y2 := f_neq c_13; have z0 := hy0; have z1 := hy1; have z2 := hy2; have z3 := hy3; have z4 := hen_12; have e011 : (1 : Int32).toInt = 1 := (by decide +kernel); have rw1 := addI (a := pl) (b := 1) (by omega) (by omega); have e_0 : (0 : Int32).toInt = 0 := (by decide +kernel); omega) (by have y0 := f_nlt c_1; have y1 := f_nle c_2; have y2 := f_neq c_13; have z0 := hy0; have z1 := hy1; have z2 := hy2; have z3 := hy3; have z4 := hen_12; have e011 : (1 : Int32).toInt = 1 := (by decide +kernel); have rw1 := addI (a := pl) (b := 1) (by omega) (by omega); have e_0 : (0 : Int32).toInt = 0 := (by decide +kernel); omega))
          generalize hy_16 : (F_X3_readPart_49 sg ln y88_2 y88_1) = y9 at hcon hM
          obtain ⟨y88b_0, y88b_1, y88b_2⟩ := y9
          refine kc_ (wc := [(h_sg, .inl (k_sg, 60, .inl sg)), (h_nu, .inl (k_nu, 3, .inl y88_1)), (h_T, .inr (6, [.ref h_sg, .int ln, .int y88_2, .ref (ad 1), .ref h_nu]))]) (wr := []) (va_runV (As := [.int 49]) (rest := []) ⟨hx, hb, hml, hown, hts⟩ hcon (cwV 1 hts gX3_readCommand_X3_readPart rfl rfl rfl (by decide +kernel) ⟨Nat.le_of_ble_eq_true rfl, Nat.le_of_ble_eq_true rfl⟩) ⟨PC_.blind, va_recv hK hP (ci := 6) (q0 := 2) rfl rfl, PC_.pre hF hK hP hD hS hA [0, 1, 2] [0, 1] rfl (by decide) rfl⟩ rfl rfl hl.1 rfl (lv_room (Nat.le_of_ble_eq_true rfl)) dX3_readCommand_88 ⟨(Nat.le_of_ble_eq_true rfl), (Nat.le_of_ble_eq_true rfl)⟩) hK hP hD hS hA [0, 1, 2] [] [] rfl rfl (by decide) (by decide) rfl (fun qa_16 ka_16 ia H locs hpo hP hD hK hS => ?_)
          have hM : F_X3_readCommand sg ln pl ch nu = (if y88b_0 = 0 then (0, y88b_1, y88b_2, 1) else (if (F_X3_readPart_61 sg ln y88b_2).1 = 0 then (0, y88b_1, (F_X3_readPart_61 sg ln y88b_2).2, 1) else (K_X3_readCommand_88 sg ln (F_X3_readPart_50 sg ln ((F_X3_readPart_61 sg ln y88b_2).2) y88b_1)))) := hM
          have hen_16 : y88_2.toInt ≤ y88b_2.toInt ∧ y88b_2.toInt ≤ y88_2.toInt + 1 ∧ (y88b_2.toInt ≤ 60 ∨ y88b_2.toInt = y88_2.toInt) := hpo
          have hP : va_P D vwCl [(h_sg, .inl (k_sg, 60, .inl sg)), (h_nu, .inl (k_nu, 3, .inl y88b_1)), (h_T, .inr (6, [.ref h_sg, .int ln, .int y88b_2, .ref (ad 1), .ref h_nu]))] H := hP
          have hD : va_D A [(h_sg, .inl (k_sg, 60, .inl sg)), (h_nu, .inl (k_nu, 3, .inl y88b_1)), (h_T, .inr (6, [.ref h_sg, .int ln, .int y88b_2, .ref (ad 1), .ref h_nu]))] := hD
          have hK : va_K D vwCl [(k_sg, .char), (k_nu, .int)] s := hK
          refine W.eq (g2 := F0 m 91 ls [.int y88b_0]) rfl ?_
          refine lv_if_ne (tgt := 96) hx hb dX3_readCommand_91 (by decide) (fun c_17 => ?_) (fun c_17 => ?_)
          · rw [if_neg c_17] at hM
            refine lv_iinc (v := 2) (lv' := [(3, .int 2), (2, .ref (ad 21)), (1, .ref (ad 1)), (0, .ref h_T)]) hx hb dX3_readCommand_96 hl (k := 0) rfl (by decide +kernel) (by decide) rfl (fun ls hl => ?_)
            refine lv_goto (tgt := 74) hx hb dX3_readCommand_99 (by decide) ?_
            refine lv_iload_n hx hb dX3_readCommand_74 rfl (lv_at hl 0 rfl) ?_
            refine lv_aload_n hx hb dX3_readCommand_75 rfl (lv_at hl 1 rfl) ?_
            refine kr_ (va_runV (As := []) (rest := [.int 2]) ⟨hx, hb, hml, hown, hts⟩ (c_J0_length_8abf5_ad21 l hl0 D ad H.size) (cwV 0 hts gX3_readCommand_J0_length_8abf5 rfl rfl rfl (by decide +kernel) ⟨Nat.le_of_ble_eq_true rfl, Nat.le_of_ble_eq_true rfl⟩) ⟨PR_.blind, vk_recv (fxst_ hF) (i := 1) (by decide) hS, PR_.pre hF hK (hP.sub [] rfl) hS hA [] rfl⟩ rfl rfl hl.1 rfl (lv_room (Nat.le_of_ble_eq_true rfl)) dX3_readCommand_76 ⟨(Nat.le_of_ble_eq_true rfl), (Nat.le_of_ble_eq_true rfl)⟩) hP hS hA (fun H locs hP hS => ?_)
            refine W.eq (g2 := F0 m 79 ls [.int 4, .int 2]) rfl ?_
            refine lv_icmp_ge (tgt := 102) hx hb dX3_readCommand_79 (by decide) (fun c9 => absurd c9 (by decide +kernel)) (fun _ => ?_)
            refine lv_aload_n hx hb dX3_readCommand_82 rfl (lv_at hl 3 rfl) ?_
            refine lv_aload_n hx hb dX3_readCommand_83 rfl (lv_at hl 1 rfl) ?_
            refine lv_iload_n hx hb dX3_readCommand_84 rfl (lv_at hl 0 rfl) ?_
            refine kr_ (va_runV (As := [.int 2]) (rest := [.ref h_T]) ⟨hx, hb, hml, hown, hts⟩ (c_J0_charAt_5068e_2_ad21 l hl0 D ad H.size) (cwV 1 hts gX3_readCommand_J0_charAt_5068e rfl rfl rfl (by decide +kernel) ⟨Nat.le_of_ble_eq_true rfl, Nat.le_of_ble_eq_true rfl⟩) ⟨PR_.blind, vk_recv (fxst_ hF) (i := 1) (by decide) hS, PR_.pre hF hK (hP.sub [] rfl) hS hA [] rfl⟩ rfl rfl hl.1 rfl (lv_room (Nat.le_of_ble_eq_true rfl)) dX3_readCommand_85 ⟨(Nat.le_of_ble_eq_true rfl), (Nat.le_of_ble_eq_true rfl)⟩) hP hS hA (fun H locs hP hS => ?_)
            refine W.eq (g2 := F0 m 88 ls [.int 61, .ref h_T]) rfl ?_
            obtain ⟨y9, hy9⟩ : ∃ y9, (F_X3_readPart_61 sg ln y88b_2) = y9 := ⟨_, rfl⟩
            have hcon := (c_X3_readPart_61 l hl0 D ad H.size h_sg h_T k_sg (.ref (ad 1)) (.ref h_nu) sg ln y88b_2 (by have y0 := f_nlt c_1; have y1 := f_nle c_2; have y2 := f_neq c_13; have y3 := f_neq c_17; have z0 := hy0; have z1 := hy1; have z2 := hy2; have z3 := hy3; have z4 := hen_12; have z5 := hen_16; have e011 : (1 : Int32).toInt = 1 := (by decide +kernel); have rw1 := addI (a := pl) (b := 1) (by omega) (by omega); have e_0 : (0 : Int32).toInt = 0 := (by decide +kernel); omega) (by have y0 := f_nlt c_1; have y1 := f_nle c_2; have y2 := f_neq c_13; have y3 := f_neq c_17; have z0 := hy0; have z1 := hy1; have z2 := hy2; have z3 := hy3; have z4 := hen_12; have z5 := hen_16; have e011 : (1 : Int32).toInt = 1 := (by decide +kernel); have rw1 := addI (a := pl) (b := 1) (by omega) (by omega); have e_0 : (0 : Int32).toInt = 0 := (by decide +kernel); omega) (by have y0 := f_nlt c_1; have y1 := f_nle c_2; have y2 := f_neq c_13; have y3 := f_neq c_17; have z0 := hy0; have z1 := hy1; have z2 := hy2; have z3 := hy3; have z4 := hen_12; have z5 := hen_16; have e011 : (1 : Int32).toInt = 1 := (by decide +kernel); have rw1 := addI (a := pl) (b := 1) (by omega) (by omega); have e_0 : (0 : Int32).toInt = 0 := (by decide +kernel); omega) (by have y0 := f_nlt c_1; have y1 := f_nle c_2; have y2 := f_neq c_13; have y3 := f_neq c_17; have z0 := hy0; have z1 := hy1; have z2 := hy2; have z3 := hy3; have z4 := hen_12; have z5 := hen_16; have e011 : (1 : Int32).toInt = 1 := (by decide +kernel); have rw1 := addI (a := pl) (b := 1) (by omega) (by omega); have e_0 : (0 : Int32).toInt = 0 := (by decide +kernel); omega))
            rw [hy9] at hcon
            refine kc_ (wc := [(h_sg, .inl (k_sg, 60, .inl sg)), (h_T, .inr (6, [.ref h_sg, .int ln, .int y88b_2, .ref (ad 1), .ref h_nu]))]) (wr := [(h_nu, .inl (k_nu, 3, .inl y88b_1))]) (va_runV (As := [.int 61]) (rest := []) ⟨hx, hb, hml, hown, hts⟩ hcon (cwV 1 hts gX3_readCommand_X3_readPart rfl rfl rfl (by decide +kernel) ⟨Nat.le_of_ble_eq_true rfl, Nat.le_of_ble_eq_true rfl⟩) ⟨PC_.blind, va_recv hK hP (ci := 6) (q0 := 2) rfl rfl, PC_.pre hF hK hP hD hS hA [0, 2] [0] rfl (by decide) rfl⟩ rfl rfl hl.1 rfl (lv_room (Nat.le_of_ble_eq_true rfl)) dX3_readCommand_88 ⟨(Nat.le_of_ble_eq_true rfl), (Nat.le_of_ble_eq_true rfl)⟩) hK hP hD hS hA [0, 2] [1] [1] rfl rfl (by decide) (by decide) rfl (fun qa_20 ka_20 ia H locs hpo hP hD hK hS => ?_)
            subst hy9
            have hen_20 : y88b_2.toInt ≤ ((F_X3_readPart_61 sg ln y88b_2).2).toInt ∧ ((F_X3_readPart_61 sg ln y88b_2).2).toInt ≤ y88b_2.toInt + 1 ∧ (((F_X3_readPart_61 sg ln y88b_2).2).toInt ≤ 60 ∨ ((F_X3_readPart_61 sg ln y88b_2).2).toInt = y88b_2.toInt) := hpo
            have hP : va_P D vwCl [(h_nu, .inl (k_nu, 3, .inl y88b_1)), (h_sg, .inl (k_sg, 60, .inl sg)), (h_T, .inr (6, [.ref h_sg, .int ln, .int (F_X3_readPart_61 sg ln y88b_2).2, .ref (ad 1), .ref h_nu]))] H := hP
            have hD : va_D A [(h_nu, .inl (k_nu, 3, .inl y88b_1)), (h_sg, .inl (k_sg, 60, .inl sg)), (h_T, .inr (6, [.ref h_sg, .int ln, .int (F_X3_readPart_61 sg ln y88b_2).2, .ref (ad 1), .ref h_nu]))] := hD
            have hK : va_K D vwCl [(k_nu, .int), (k_sg, .char)] s := hK
            refine W.eq (g2 := F0 m 91 ls [.int (F_X3_readPart_61 sg ln y88b_2).1]) rfl ?_
            refine lv_if_ne (tgt := 96) hx hb dX3_readCommand_91 (by decide) (fun c_21 => ?_) (fun c_21 => ?_)
            · rw [if_neg c_21] at hM
              refine lv_iinc (v := 3) (lv' := [(3, .int 3), (2, .ref (ad 21)), (1, .ref (ad 1)), (0, .ref h_T)]) hx hb dX3_readCommand_96 hl (k := 0) rfl (by decide +kernel) (by decide) rfl (fun ls hl => ?_)
              refine lv_goto (tgt := 74) hx hb dX3_readCommand_99 (by decide) ?_
              refine lv_iload_n hx hb dX3_readCommand_74 rfl (lv_at hl 0 rfl) ?_
              refine lv_aload_n hx hb dX3_readCommand_75 rfl (lv_at hl 1 rfl) ?_
              refine kr_ (va_runV (As := []) (rest := [.int 3]) ⟨hx, hb, hml, hown, hts⟩ (c_J0_length_8abf5_ad21 l hl0 D ad H.size) (cwV 0 hts gX3_readCommand_J0_length_8abf5 rfl rfl rfl (by decide +kernel) ⟨Nat.le_of_ble_eq_true rfl, Nat.le_of_ble_eq_true rfl⟩) ⟨PR_.blind, vk_recv (fxst_ hF) (i := 1) (by decide) hS, PR_.pre hF hK (hP.sub [] rfl) hS hA [] rfl⟩ rfl rfl hl.1 rfl (lv_room (Nat.le_of_ble_eq_true rfl)) dX3_readCommand_76 ⟨(Nat.le_of_ble_eq_true rfl), (Nat.le_of_ble_eq_true rfl)⟩) hP hS hA (fun H locs hP hS => ?_)
              refine W.eq (g2 := F0 m 79 ls [.int 4, .int 3]) rfl ?_
              refine lv_icmp_ge (tgt := 102) hx hb dX3_readCommand_79 (by decide) (fun c9 => absurd c9 (by decide +kernel)) (fun _ => ?_)
              refine lv_aload_n hx hb dX3_readCommand_82 rfl (lv_at hl 3 rfl) ?_
              refine lv_aload_n hx hb dX3_readCommand_83 rfl (lv_at hl 1 rfl) ?_
              refine lv_iload_n hx hb dX3_readCommand_84 rfl (lv_at hl 0 rfl) ?_
              refine kr_ (va_runV (As := [.int 3]) (rest := [.ref h_T]) ⟨hx, hb, hml, hown, hts⟩ (c_J0_charAt_5068e_3_ad21 l hl0 D ad H.size) (cwV 1 hts gX3_readCommand_J0_charAt_5068e rfl rfl rfl (by decide +kernel) ⟨Nat.le_of_ble_eq_true rfl, Nat.le_of_ble_eq_true rfl⟩) ⟨PR_.blind, vk_recv (fxst_ hF) (i := 1) (by decide) hS, PR_.pre hF hK (hP.sub [] rfl) hS hA [] rfl⟩ rfl rfl hl.1 rfl (lv_room (Nat.le_of_ble_eq_true rfl)) dX3_readCommand_85 ⟨(Nat.le_of_ble_eq_true rfl), (Nat.le_of_ble_eq_true rfl)⟩) hP hS hA (fun H locs hP hS => ?_)
              refine W.eq (g2 := F0 m 88 ls [.int 50, .ref h_T]) rfl ?_
              have hcon := (c_X3_readPart_50 l hl0 D ad H.size h_sg h_nu h_T k_sg k_nu (.ref (ad 1)) sg y88b_1 ln ((F_X3_readPart_61 sg ln y88b_2).2) (by have y0 := f_nlt c_1; have y1 := f_nle c_2; have y2 := f_neq c_13; have y3 := f_neq c_17; have y4 := f_neq c_21; have z0 := hy0; have z1 := hy1; have z2 := hy2; have z3 := hy3; have z4 := hen_12; have z5 := hen_16; have z6 := hen_20; have e011 : (1 : Int32).toInt = 1 := (by decide +kernel); have rw1 := addI (a := pl) (b := 1) (by omega) (by omega); have e_0 : (0 : Int32).toInt = 0 := (by decide +kernel); omega) (by have y0 := f_nlt c_1; have y1 := f_nle c_2; have y2 := f_neq c_13; have y3 := f_neq c_17; have y4 := f_neq c_21; have z0 := hy0; have z1 := hy1; have z2 := hy2; have z3 := hy3; have z4 := hen_12; have z5 := hen_16; have z6 := hen_20; have e011 : (1 : Int32).toInt = 1 := (by decide +kernel); have rw1 := addI (a := pl) (b := 1) (by omega) (by omega); have e_0 : (0 : Int32).toInt = 0 := (by decide +kernel); omega) (by have y0 := f_nlt c_1; have y1 := f_nle c_2; have y2 := f_neq c_13; have y3 := f_neq c_17; have y4 := f_neq c_21; have z0 := hy0; have z1 := hy1; have z2 := hy2; have z3 := hy3; have z4 := hen_12; have z5 := hen_16; have z6 := hen_20; have e011 : (1 : Int32).toInt = 1 := (by decide +kernel); have rw1 := addI (a := pl) (b := 1) (by omega) (by omega); have e_0 : (0 : Int32).toInt = 0 := (by decide +kernel); have b167 := Int32.toInt_lt ((F_X3_readPart_61 sg ln y88b_2).2); have d167 := Int32.le_toInt ((F_X3_readPart_61 sg ln y88b_2).2); omega) (by have y0 := f_nlt c_1; have y1 := f_nle c_2; have y2 := f_neq c_13; have y3 := f_neq c_17; have y4 := f_neq c_21; have z0 := hy0; have z1 := hy1; have z2 := hy2; have z3 := hy3; have z4 := hen_12; have z5 := hen_16; have z6 := hen_20; have e011 : (1 : Int32).toInt = 1 := (by decide +kernel); have rw1 := addI (a := pl) (b := 1) (by omega) (by omega); have e_0 : (0 : Int32).toInt = 0 := (by decide +kernel); have b168 := Int32.toInt_lt ((F_X3_readPart_61 sg ln y88b_2).2); have d168 := Int32.le_toInt ((F_X3_readPart_61 sg ln y88b_2).2); omega))
              generalize hy_24 : (F_X3_readPart_50 sg ln ((F_X3_readPart_61 sg ln y88b_2).2) y88b_1) = y9 at hcon hM
              obtain ⟨y88bb_0, y88bb_1, y88bb_2⟩ := y9
              refine kc_ (wc := [(h_sg, .inl (k_sg, 60, .inl sg)), (h_nu, .inl (k_nu, 3, .inl y88b_1)), (h_T, .inr (6, [.ref h_sg, .int ln, .int (F_X3_readPart_61 sg ln y88b_2).2, .ref (ad 1), .ref h_nu]))]) (wr := []) (va_runV (As := [.int 50]) (rest := []) ⟨hx, hb, hml, hown, hts⟩ hcon (cwV 1 hts gX3_readCommand_X3_readPart rfl rfl rfl (by decide +kernel) ⟨Nat.le_of_ble_eq_true rfl, Nat.le_of_ble_eq_true rfl⟩) ⟨PC_.blind, va_recv hK hP (ci := 6) (q0 := 2) rfl rfl, PC_.pre hF hK hP hD hS hA [1, 0, 2] [1, 0] rfl (by decide) rfl⟩ rfl rfl hl.1 rfl (lv_room (Nat.le_of_ble_eq_true rfl)) dX3_readCommand_88 ⟨(Nat.le_of_ble_eq_true rfl), (Nat.le_of_ble_eq_true rfl)⟩) hK hP hD hS hA [1, 0, 2] [] [] rfl rfl (by decide) (by decide) rfl (fun qa_24 ka_24 ia H locs hpo hP hD hK hS => ?_)
              have hM : F_X3_readCommand sg ln pl ch nu = (if y88bb_0 = 0 then (0, y88bb_1, y88bb_2, 1) else (if ln ≤ y88bb_2 then (1, y88bb_1, y88bb_2, 1) else (if (sg (ix y88bb_2)) = 59 then (1, y88bb_1, y88bb_2, 1) else (0, y88bb_1, y88bb_2, 1)))) := hM
              have hen_24 : ((F_X3_readPart_61 sg ln y88b_2).2).toInt ≤ y88bb_2.toInt ∧ y88bb_2.toInt ≤ ((F_X3_readPart_61 sg ln y88b_2).2).toInt + 1 ∧ (y88bb_2.toInt ≤ 60 ∨ y88bb_2.toInt = ((F_X3_readPart_61 sg ln y88b_2).2).toInt) := hpo
              have hP : va_P D vwCl [(h_sg, .inl (k_sg, 60, .inl sg)), (h_nu, .inl (k_nu, 3, .inl y88bb_1)), (h_T, .inr (6, [.ref h_sg, .int ln, .int y88bb_2, .ref (ad 1), .ref h_nu]))] H := hP
              have hD : va_D A [(h_sg, .inl (k_sg, 60, .inl sg)), (h_nu, .inl (k_nu, 3, .inl y88bb_1)), (h_T, .inr (6, [.ref h_sg, .int ln, .int y88bb_2, .ref (ad 1), .ref h_nu]))] := hD
              have hK : va_K D vwCl [(k_sg, .char), (k_nu, .int)] s := hK
              refine W.eq (g2 := F0 m 91 ls [.int y88bb_0]) rfl ?_
              refine lv_if_ne (tgt := 96) hx hb dX3_readCommand_91 (by decide) (fun c_25 => ?_) (fun c_25 => ?_)
              · rw [if_neg c_25] at hM
                refine lv_iinc (v := 4) (lv' := [(3, .int 4), (2, .ref (ad 21)), (1, .ref (ad 1)), (0, .ref h_T)]) hx hb dX3_readCommand_96 hl (k := 0) rfl (by decide +kernel) (by decide) rfl (fun ls hl => ?_)
                refine lv_goto (tgt := 74) hx hb dX3_readCommand_99 (by decide) ?_
                refine lv_iload_n hx hb dX3_readCommand_74 rfl (lv_at hl 0 rfl) ?_
                refine lv_aload_n hx hb dX3_readCommand_75 rfl (lv_at hl 1 rfl) ?_
                refine kr_ (va_runV (As := []) (rest := [.int 4]) ⟨hx, hb, hml, hown, hts⟩ (c_J0_length_8abf5_ad21 l hl0 D ad H.size) (cwV 0 hts gX3_readCommand_J0_length_8abf5 rfl rfl rfl (by decide +kernel) ⟨Nat.le_of_ble_eq_true rfl, Nat.le_of_ble_eq_true rfl⟩) ⟨PR_.blind, vk_recv (fxst_ hF) (i := 1) (by decide) hS, PR_.pre hF hK (hP.sub [] rfl) hS hA [] rfl⟩ rfl rfl hl.1 rfl (lv_room (Nat.le_of_ble_eq_true rfl)) dX3_readCommand_76 ⟨(Nat.le_of_ble_eq_true rfl), (Nat.le_of_ble_eq_true rfl)⟩) hP hS hA (fun H locs hP hS => ?_)
                refine W.eq (g2 := F0 m 79 ls [.int 4, .int 4]) rfl ?_
                refine lv_icmp_ge (tgt := 102) hx hb dX3_readCommand_79 (by decide) (fun _ => ?_) (fun c9 => absurd (by decide +kernel) c9)
                refine lv_aload_n hx hb dX3_readCommand_102 rfl (lv_at hl 3 rfl) ?_
                refine va_get (D := D) (ci := 6) (v := .int y88bb_2) (own := RX3) (C := RX3) (T := TX3) (N := 5) hx hb hts hi_X3 hown hK hP 2 rfl rfl 2 (by decide) (hts (.fieldLink RX3 19 "CanalMaps$CommandText" "place" "I") (List.mem_of_getElem? (i := 1) (by decide +kernel))) (fun _ h9 => h9) rfl dX3_readCommand_103 ?_
                refine lv_aload_n hx hb dX3_readCommand_106 rfl (lv_at hl 3 rfl) ?_
                refine va_get (D := D) (ci := 6) (v := .int ln) (own := RX3) (C := RX3) (T := TX3) (N := 5) hx hb hts hi_X3 hown hK hP 2 rfl rfl 1 (by decide) (hts (.fieldLink RX3 15 "CanalMaps$CommandText" "length" "I") (List.mem_of_getElem? (i := 2) (by decide +kernel))) (fun _ h9 => h9) rfl dX3_readCommand_107 ?_
                refine lv_icmp_ge (tgt := 127) hx hb dX3_readCommand_110 (by decide) (fun c_27 => ?_) (fun c_27 => ?_)
                · rw [if_pos c_27] at hM
                  refine lv_iconst (v := 1) hx hb dX3_readCommand_127 (by decide) ?_
                  refine lv_goto (tgt := 132) hx hb dX3_readCommand_128 (by decide) ?_
                  refine W.widen (k := 0) (n := 0) (Nat.le_of_ble_eq_true rfl) (Nat.le_of_ble_eq_true rfl) ?_
                  exact W.zret (v := 1) hx hb hr rfl (QG_.mk (fun _ => 0) (fun _ => 0) (fun _ => 0) [0, 1, 2] [0, 1] hP hD hK hS (by rw [hM]) (by rw [hM]; exact ⟨(show pl.toInt ≤ y88bb_2.toInt from (by have y0 := f_nlt c_1; have y1 := f_nle c_2; have y2 := f_neq c_13; have y3 := f_neq c_17; have y4 := f_neq c_21; have y5 := f_neq c_25; have y6 := f_le c_27; have z0 := hy0; have z1 := hy1; have z2 := hy2; have z3 := hy3; have z4 := hen_12; have z5 := hen_16; have z6 := hen_20; have z7 := hen_24; have e011 : (1 : Int32).toInt = 1 := (by decide +kernel); have rw1 := addI (a := pl) (b := 1) (by omega) (by omega); have e_0 : (0 : Int32).toInt = 0 := (by decide +kernel); have b170 := Int32.toInt_lt (y88bb_2); have d170 := Int32.le_toInt (y88bb_2); omega)), (show (y88bb_2.toInt ≤ 60 ∨ y88bb_2.toInt = pl.toInt) from (by have y0 := f_nlt c_1; have y1 := f_nle c_2; have y2 := f_neq c_13; have y3 := f_neq c_17; have y4 := f_neq c_21; have y5 := f_neq c_25; have y6 := f_le c_27; have z0 := hy0; have z1 := hy1; have z2 := hy2; have z3 := hy3; have z4 := hen_12; have z5 := hen_16; have z6 := hen_20; have z7 := hen_24; have e011 : (1 : Int32).toInt = 1 := (by decide +kernel); have rw1 := addI (a := pl) (b := 1) (by omega) (by omega); have e_0 : (0 : Int32).toInt = 0 := (by decide +kernel); have b171 := Int32.toInt_lt (y88bb_2); have d171 := Int32.le_toInt (y88bb_2); have b172 := Int32.toInt_lt (y88bb_2); have d172 := Int32.le_toInt (y88bb_2); omega)), (show (1 < 6 ∨ 1 = ch) from (by have y0 := f_nlt c_1; have y1 := f_nle c_2; have y2 := f_neq c_13; have y3 := f_neq c_17; have y4 := f_neq c_21; have y5 := f_neq c_25; have y6 := f_le c_27; have z0 := hy0; have z1 := hy1; have z2 := hy2; have z3 := hy3; have z4 := hen_12; have z5 := hen_16; have z6 := hen_20; have z7 := hen_24; have e011 : (1 : Int32).toInt = 1 := (by decide +kernel); have rw1 := addI (a := pl) (b := 1) (by omega) (by omega); have e_0 : (0 : Int32).toInt = 0 := (by decide +kernel); omega))⟩) (by first | (rw [hM]; rfl) | rfl) (by decide) rfl) hS.2.2 dX3_readCommand_132
                · rw [if_neg c_27] at hM
                  refine lv_aload_n hx hb dX3_readCommand_113 rfl (lv_at hl 3 rfl) ?_
                  refine va_get (D := D) (ci := 6) (v := .ref h_sg) (own := RX3) (C := RX3) (T := TX3) (N := 5) hx hb hts hi_X3 hown hK hP 2 rfl rfl 0 (by decide) (hts (.fieldLink RX3 9 "CanalMaps$CommandText" "signs" "[C") (List.mem_of_getElem? (i := 3) (by decide +kernel))) (fun _ h9 => h9) rfl dX3_readCommand_114 ?_
                  refine lv_aload_n hx hb dX3_readCommand_117 rfl (lv_at hl 3 rfl) ?_
                  refine va_get (D := D) (ci := 6) (v := .int y88bb_2) (own := RX3) (C := RX3) (T := TX3) (N := 5) hx hb hts hi_X3 hown hK hP 2 rfl rfl 2 (by decide) (hts (.fieldLink RX3 19 "CanalMaps$CommandText" "place" "I") (List.mem_of_getElem? (i := 1) (by decide +kernel))) (fun _ h9 => h9) rfl dX3_readCommand_118 ?_
                  refine va_cald hx hb hK hP 0 0 rfl rfl (vinI (by have y0 := f_nlt c_1; have y1 := f_nle c_2; have y2 := f_neq c_13; have y3 := f_neq c_17; have y4 := f_neq c_21; have y5 := f_neq c_25; have y6 := f_nle c_27; have z0 := hy0; have z1 := hy1; have z2 := hy2; have z3 := hy3; have z4 := hen_12; have z5 := hen_16; have z6 := hen_20; have z7 := hen_24; have e011 : (1 : Int32).toInt = 1 := (by decide +kernel); have rw1 := addI (a := pl) (b := 1) (by omega) (by omega); have e_0 : (0 : Int32).toInt = 0 := (by decide +kernel); have b173 := Int32.toInt_lt (y88bb_2); have d173 := Int32.le_toInt (y88bb_2); omega) (by have y0 := f_nlt c_1; have y1 := f_nle c_2; have y2 := f_neq c_13; have y3 := f_neq c_17; have y4 := f_neq c_21; have y5 := f_neq c_25; have y6 := f_nle c_27; have z0 := hy0; have z1 := hy1; have z2 := hy2; have z3 := hy3; have z4 := hen_12; have z5 := hen_16; have z6 := hen_20; have z7 := hen_24; have e011 : (1 : Int32).toInt = 1 := (by decide +kernel); have rw1 := addI (a := pl) (b := 1) (by omega) (by omega); have e_0 : (0 : Int32).toInt = 0 := (by decide +kernel); have b173 := Int32.toInt_lt (y88bb_2); have d173 := Int32.le_toInt (y88bb_2); omega)) dX3_readCommand_121 ?_
                  refine kt_ (v := (sg (ix y88bb_2))) rfl ?_
                  refine lv_bipush (v := 59) hx hb dX3_readCommand_122 (by decide) ?_
                  refine lv_icmp_ne (tgt := 131) hx hb dX3_readCommand_124 (by decide) (fun c_28 => ?_) (fun c_28 => ?_)
                  · rw [if_neg c_28] at hM
                    refine lv_iconst (v := 0) hx hb dX3_readCommand_131 (by decide) ?_
                    refine W.widen (k := 0) (n := 0) (Nat.le_of_ble_eq_true rfl) (Nat.le_of_ble_eq_true rfl) ?_
                    exact W.zret (v := 0) hx hb hr rfl (QG_.mk (fun _ => 0) (fun _ => 0) (fun _ => 0) [0, 1, 2] [0, 1] hP hD hK hS (by rw [hM]) (by rw [hM]; exact ⟨(show pl.toInt ≤ y88bb_2.toInt from (by have y0 := f_nlt c_1; have y1 := f_nle c_2; have y2 := f_neq c_13; have y3 := f_neq c_17; have y4 := f_neq c_21; have y5 := f_neq c_25; have y6 := f_nle c_27; have y7 := f_neq c_28; have z0 := hy0; have z1 := hy1; have z2 := hy2; have z3 := hy3; have z4 := hen_12; have z5 := hen_16; have z6 := hen_20; have z7 := hen_24; have e011 : (1 : Int32).toInt = 1 := (by decide +kernel); have rw1 := addI (a := pl) (b := 1) (by omega) (by omega); have e_0 : (0 : Int32).toInt = 0 := (by decide +kernel); have e_59 : (59 : Int32).toInt = 59 := (by decide +kernel); have b174 := Int32.toInt_lt (y88bb_2); have d174 := Int32.le_toInt (y88bb_2); have x0 := ix_toNat y88bb_2; omega)), (show (y88bb_2.toInt ≤ 60 ∨ y88bb_2.toInt = pl.toInt) from (by have y0 := f_nlt c_1; have y1 := f_nle c_2; have y2 := f_neq c_13; have y3 := f_neq c_17; have y4 := f_neq c_21; have y5 := f_neq c_25; have y6 := f_nle c_27; have y7 := f_neq c_28; have z0 := hy0; have z1 := hy1; have z2 := hy2; have z3 := hy3; have z4 := hen_12; have z5 := hen_16; have z6 := hen_20; have z7 := hen_24; have e011 : (1 : Int32).toInt = 1 := (by decide +kernel); have rw1 := addI (a := pl) (b := 1) (by omega) (by omega); have e_0 : (0 : Int32).toInt = 0 := (by decide +kernel); have e_59 : (59 : Int32).toInt = 59 := (by decide +kernel); have b175 := Int32.toInt_lt (y88bb_2); have d175 := Int32.le_toInt (y88bb_2); have b176 := Int32.toInt_lt (y88bb_2); have d176 := Int32.le_toInt (y88bb_2); have x0 := ix_toNat y88bb_2; omega)), (show (1 < 6 ∨ 1 = ch) from (by have y0 := f_nlt c_1; have y1 := f_nle c_2; have y2 := f_neq c_13; have y3 := f_neq c_17; have y4 := f_neq c_21; have y5 := f_neq c_25; have y6 := f_nle c_27; have y7 := f_neq c_28; have z0 := hy0; have z1 := hy1; have z2 := hy2; have z3 := hy3; have z4 := hen_12; have z5 := hen_16; have z6 := hen_20; have z7 := hen_24; have e011 : (1 : Int32).toInt = 1 := (by decide +kernel); have rw1 := addI (a := pl) (b := 1) (by omega) (by omega); have e_0 : (0 : Int32).toInt = 0 := (by decide +kernel); have e_59 : (59 : Int32).toInt = 59 := (by decide +kernel); have x0 := ix_toNat y88bb_2; omega))⟩) (by first | (rw [hM]; rfl) | rfl) (by decide) rfl) hS.2.2 dX3_readCommand_132
                  · rw [if_pos c_28] at hM
                    refine lv_iconst (v := 1) hx hb dX3_readCommand_127 (by decide) ?_
                    refine lv_goto (tgt := 132) hx hb dX3_readCommand_128 (by decide) ?_
                    refine W.widen (k := 0) (n := 0) (Nat.le_of_ble_eq_true rfl) (Nat.le_of_ble_eq_true rfl) ?_
                    exact W.zret (v := 1) hx hb hr rfl (QG_.mk (fun _ => 0) (fun _ => 0) (fun _ => 0) [0, 1, 2] [0, 1] hP hD hK hS (by rw [hM]) (by rw [hM]; exact ⟨(show pl.toInt ≤ y88bb_2.toInt from (by have y0 := f_nlt c_1; have y1 := f_nle c_2; have y2 := f_neq c_13; have y3 := f_neq c_17; have y4 := f_neq c_21; have y5 := f_neq c_25; have y6 := f_nle c_27; have y7 := f_eq c_28; have z0 := hy0; have z1 := hy1; have z2 := hy2; have z3 := hy3; have z4 := hen_12; have z5 := hen_16; have z6 := hen_20; have z7 := hen_24; have e011 : (1 : Int32).toInt = 1 := (by decide +kernel); have rw1 := addI (a := pl) (b := 1) (by omega) (by omega); have e_0 : (0 : Int32).toInt = 0 := (by decide +kernel); have e_59 : (59 : Int32).toInt = 59 := (by decide +kernel); have b177 := Int32.toInt_lt (y88bb_2); have d177 := Int32.le_toInt (y88bb_2); have x0 := ix_toNat y88bb_2; omega)), (show (y88bb_2.toInt ≤ 60 ∨ y88bb_2.toInt = pl.toInt) from (by have y0 := f_nlt c_1; have y1 := f_nle c_2; have y2 := f_neq c_13; have y3 := f_neq c_17; have y4 := f_neq c_21; have y5 := f_neq c_25; have y6 := f_nle c_27; have y7 := f_eq c_28; have z0 := hy0; have z1 := hy1; have z2 := hy2; have z3 := hy3; have z4 := hen_12; have z5 := hen_16; have z6 := hen_20; have z7 := hen_24; have e011 : (1 : Int32).toInt = 1 := (by decide +kernel); have rw1 := addI (a := pl) (b := 1) (by omega) (by omega); have e_0 : (0 : Int32).toInt = 0 := (by decide +kernel); have e_59 : (59 : Int32).toInt = 59 := (by decide +kernel); have b178 := Int32.toInt_lt (y88bb_2); have d178 := Int32.le_toInt (y88bb_2); have b179 := Int32.toInt_lt (y88bb_2); have d179 := Int32.le_toInt (y88bb_2); have x0 := ix_toNat y88bb_2; omega)), (show (1 < 6 ∨ 1 = ch) from (by have y0 := f_nlt c_1; have y1 := f_nle c_2; have y2 := f_neq c_13; have y3 := f_neq c_17; have y4 := f_neq c_21; have y5 := f_neq c_25; have y6 := f_nle c_27; have y7 := f_eq c_28; have z0 := hy0; have z1 := hy1; have z2 := hy2; have z3 := hy3; have z4 := hen_12; have z5 := hen_16; have z6 := hen_20; have z7 := hen_24; have e011 : (1 : Int32).toInt = 1 := (by decide +kernel); have rw1 := addI (a := pl) (b := 1) (by omega) (by omega); have e_0 : (0 : Int32).toInt = 0 := (by decide +kernel); have e_59 : (59 : Int32).toInt = 59 := (by decide +kernel); have x0 := ix_toNat y88bb_2; omega))⟩) (by first | (rw [hM]; rfl) | rfl) (by decide) rfl) hS.2.2 dX3_readCommand_132
              · rw [if_pos c_25] at hM
                refine lv_iconst (v := 0) hx hb dX3_readCommand_94 (by decide) ?_
                refine W.widen (k := 0) (n := 0) (Nat.le_of_ble_eq_true rfl) (Nat.le_of_ble_eq_true rfl) ?_
                exact W.zret (v := 0) hx hb hr rfl (QG_.mk (fun _ => 0) (fun _ => 0) (fun _ => 0) [0, 1, 2] [0, 1] hP hD hK hS (by rw [hM]) (by rw [hM]; exact ⟨(show pl.toInt ≤ y88bb_2.toInt from (by have y0 := f_nlt c_1; have y1 := f_nle c_2; have y2 := f_neq c_13; have y3 := f_neq c_17; have y4 := f_neq c_21; have y5 := f_eq c_25; have z0 := hy0; have z1 := hy1; have z2 := hy2; have z3 := hy3; have z4 := hen_12; have z5 := hen_16; have z6 := hen_20; have z7 := hen_24; have e011 : (1 : Int32).toInt = 1 := (by decide +kernel); have rw1 := addI (a := pl) (b := 1) (by omega) (by omega); have e_0 : (0 : Int32).toInt = 0 := (by decide +kernel); have b180 := Int32.toInt_lt (y88bb_2); have d180 := Int32.le_toInt (y88bb_2); omega)), (show (y88bb_2.toInt ≤ 60 ∨ y88bb_2.toInt = pl.toInt) from (by have y0 := f_nlt c_1; have y1 := f_nle c_2; have y2 := f_neq c_13; have y3 := f_neq c_17; have y4 := f_neq c_21; have y5 := f_eq c_25; have z0 := hy0; have z1 := hy1; have z2 := hy2; have z3 := hy3; have z4 := hen_12; have z5 := hen_16; have z6 := hen_20; have z7 := hen_24; have e011 : (1 : Int32).toInt = 1 := (by decide +kernel); have rw1 := addI (a := pl) (b := 1) (by omega) (by omega); have e_0 : (0 : Int32).toInt = 0 := (by decide +kernel); have b181 := Int32.toInt_lt (y88bb_2); have d181 := Int32.le_toInt (y88bb_2); have b182 := Int32.toInt_lt (y88bb_2); have d182 := Int32.le_toInt (y88bb_2); omega)), (show (1 < 6 ∨ 1 = ch) from (by have y0 := f_nlt c_1; have y1 := f_nle c_2; have y2 := f_neq c_13; have y3 := f_neq c_17; have y4 := f_neq c_21; have y5 := f_eq c_25; have z0 := hy0; have z1 := hy1; have z2 := hy2; have z3 := hy3; have z4 := hen_12; have z5 := hen_16; have z6 := hen_20; have z7 := hen_24; have e011 : (1 : Int32).toInt = 1 := (by decide +kernel); have rw1 := addI (a := pl) (b := 1) (by omega) (by omega); have e_0 : (0 : Int32).toInt = 0 := (by decide +kernel); omega))⟩) (by first | (rw [hM]; rfl) | rfl) (by decide) rfl) hS.2.2 dX3_readCommand_95
            · rw [if_pos c_21] at hM
              refine lv_iconst (v := 0) hx hb dX3_readCommand_94 (by decide) ?_
              refine W.widen (k := 0) (n := 0) (Nat.le_of_ble_eq_true rfl) (Nat.le_of_ble_eq_true rfl) ?_
              exact W.zret (v := 0) hx hb hr rfl (QG_.mk (fun _ => 0) (fun _ => 0) (fun _ => 0) [1, 0, 2] [1, 0] hP hD hK hS (by rw [hM]) (by rw [hM]; exact ⟨(show pl.toInt ≤ ((F_X3_readPart_61 sg ln y88b_2).2).toInt from (by have y0 := f_nlt c_1; have y1 := f_nle c_2; have y2 := f_neq c_13; have y3 := f_neq c_17; have y4 := f_eq c_21; have z0 := hy0; have z1 := hy1; have z2 := hy2; have z3 := hy3; have z4 := hen_12; have z5 := hen_16; have z6 := hen_20; have e011 : (1 : Int32).toInt = 1 := (by decide +kernel); have rw1 := addI (a := pl) (b := 1) (by omega) (by omega); have e_0 : (0 : Int32).toInt = 0 := (by decide +kernel); have b183 := Int32.toInt_lt ((F_X3_readPart_61 sg ln y88b_2).2); have d183 := Int32.le_toInt ((F_X3_readPart_61 sg ln y88b_2).2); omega)), (show (((F_X3_readPart_61 sg ln y88b_2).2).toInt ≤ 60 ∨ ((F_X3_readPart_61 sg ln y88b_2).2).toInt = pl.toInt) from (by have y0 := f_nlt c_1; have y1 := f_nle c_2; have y2 := f_neq c_13; have y3 := f_neq c_17; have y4 := f_eq c_21; have z0 := hy0; have z1 := hy1; have z2 := hy2; have z3 := hy3; have z4 := hen_12; have z5 := hen_16; have z6 := hen_20; have e011 : (1 : Int32).toInt = 1 := (by decide +kernel); have rw1 := addI (a := pl) (b := 1) (by omega) (by omega); have e_0 : (0 : Int32).toInt = 0 := (by decide +kernel); have b184 := Int32.toInt_lt ((F_X3_readPart_61 sg ln y88b_2).2); have d184 := Int32.le_toInt ((F_X3_readPart_61 sg ln y88b_2).2); have b185 := Int32.toInt_lt ((F_X3_readPart_61 sg ln y88b_2).2); have d185 := Int32.le_toInt ((F_X3_readPart_61 sg ln y88b_2).2); omega)), (show (1 < 6 ∨ 1 = ch) from (by have y0 := f_nlt c_1; have y1 := f_nle c_2; have y2 := f_neq c_13; have y3 := f_neq c_17; have y4 := f_eq c_21; have z0 := hy0; have z1 := hy1; have z2 := hy2; have z3 := hy3; have z4 := hen_12; have z5 := hen_16; have z6 := hen_20; have e011 : (1 : Int32).toInt = 1 := (by decide +kernel); have rw1 := addI (a := pl) (b := 1) (by omega) (by omega); have e_0 : (0 : Int32).toInt = 0 := (by decide +kernel); omega))⟩) (by first | (rw [hM]; rfl) | rfl) (by decide) rfl) hS.2.2 dX3_readCommand_95
          · rw [if_pos c_17] at hM
            refine lv_iconst (v := 0) hx hb dX3_readCommand_94 (by decide) ?_
            refine W.widen (k := 0) (n := 0) (Nat.le_of_ble_eq_true rfl) (Nat.le_of_ble_eq_true rfl) ?_
            exact W.zret (v := 0) hx hb hr rfl (QG_.mk (fun _ => 0) (fun _ => 0) (fun _ => 0) [0, 1, 2] [0, 1] hP hD hK hS (by rw [hM]) (by rw [hM]; exact ⟨(show pl.toInt ≤ y88b_2.toInt from (by have y0 := f_nlt c_1; have y1 := f_nle c_2; have y2 := f_neq c_13; have y3 := f_eq c_17; have z0 := hy0; have z1 := hy1; have z2 := hy2; have z3 := hy3; have z4 := hen_12; have z5 := hen_16; have e011 : (1 : Int32).toInt = 1 := (by decide +kernel); have rw1 := addI (a := pl) (b := 1) (by omega) (by omega); have e_0 : (0 : Int32).toInt = 0 := (by decide +kernel); have b186 := Int32.toInt_lt (y88b_2); have d186 := Int32.le_toInt (y88b_2); omega)), (show (y88b_2.toInt ≤ 60 ∨ y88b_2.toInt = pl.toInt) from (by have y0 := f_nlt c_1; have y1 := f_nle c_2; have y2 := f_neq c_13; have y3 := f_eq c_17; have z0 := hy0; have z1 := hy1; have z2 := hy2; have z3 := hy3; have z4 := hen_12; have z5 := hen_16; have e011 : (1 : Int32).toInt = 1 := (by decide +kernel); have rw1 := addI (a := pl) (b := 1) (by omega) (by omega); have e_0 : (0 : Int32).toInt = 0 := (by decide +kernel); have b187 := Int32.toInt_lt (y88b_2); have d187 := Int32.le_toInt (y88b_2); have b188 := Int32.toInt_lt (y88b_2); have d188 := Int32.le_toInt (y88b_2); omega)), (show (1 < 6 ∨ 1 = ch) from (by have y0 := f_nlt c_1; have y1 := f_nle c_2; have y2 := f_neq c_13; have y3 := f_eq c_17; have z0 := hy0; have z1 := hy1; have z2 := hy2; have z3 := hy3; have z4 := hen_12; have z5 := hen_16; have e011 : (1 : Int32).toInt = 1 := (by decide +kernel); have rw1 := addI (a := pl) (b := 1) (by omega) (by omega); have e_0 : (0 : Int32).toInt = 0 := (by decide +kernel); omega))⟩) (by first | (rw [hM]; rfl) | rfl) (by decide) rfl) hS.2.2 dX3_readCommand_95
        · rw [if_pos c_13] at hM
          refine lv_iconst (v := 0) hx hb dX3_readCommand_94 (by decide) ?_
          refine W.widen (k := 0) (n := 0) (Nat.le_of_ble_eq_true rfl) (Nat.le_of_ble_eq_true rfl) ?_
          exact W.zret (v := 0) hx hb hr rfl (QG_.mk (fun _ => 0) (fun _ => 0) (fun _ => 0) [0, 1, 2] [0, 1] hP hD hK hS (by rw [hM]) (by rw [hM]; exact ⟨(show pl.toInt ≤ y88_2.toInt from (by have y0 := f_nlt c_1; have y1 := f_nle c_2; have y2 := f_eq c_13; have z0 := hy0; have z1 := hy1; have z2 := hy2; have z3 := hy3; have z4 := hen_12; have e011 : (1 : Int32).toInt = 1 := (by decide +kernel); have rw1 := addI (a := pl) (b := 1) (by omega) (by omega); have e_0 : (0 : Int32).toInt = 0 := (by decide +kernel); have b189 := Int32.toInt_lt (y88_2); have d189 := Int32.le_toInt (y88_2); omega)), (show (y88_2.toInt ≤ 60 ∨ y88_2.toInt = pl.toInt) from (by have y0 := f_nlt c_1; have y1 := f_nle c_2; have y2 := f_eq c_13; have z0 := hy0; have z1 := hy1; have z2 := hy2; have z3 := hy3; have z4 := hen_12; have e011 : (1 : Int32).toInt = 1 := (by decide +kernel); have rw1 := addI (a := pl) (b := 1) (by omega) (by omega); have e_0 : (0 : Int32).toInt = 0 := (by decide +kernel); have b190 := Int32.toInt_lt (y88_2); have d190 := Int32.le_toInt (y88_2); have b191 := Int32.toInt_lt (y88_2); have d191 := Int32.le_toInt (y88_2); omega)), (show (1 < 6 ∨ 1 = ch) from (by have y0 := f_nlt c_1; have y1 := f_nle c_2; have y2 := f_eq c_13; have z0 := hy0; have z1 := hy1; have z2 := hy2; have z3 := hy3; have z4 := hen_12; have e011 : (1 : Int32).toInt = 1 := (by decide +kernel); have rw1 := addI (a := pl) (b := 1) (by omega) (by omega); have e_0 : (0 : Int32).toInt = 0 := (by decide +kernel); omega))⟩) (by first | (rw [hM]; rfl) | rfl) (by decide) rfl) hS.2.2 dX3_readCommand_95
      · rw [c_4]
        rw [if_neg (show ¬ (F_X2_beginningWith (sg (ix pl))) = 0 from by rw [c_4]; decide)] at hM
        rw [if_neg (show ¬ (F_X2_beginningWith (sg (ix pl))) = 1 from by rw [c_4]; decide)] at hM
        rw [if_pos c_4] at hM
        refine W.eq (g2 := F0 m 30 ls [.ref (ad 2)]) rfl ?_
        refine lv_goto (tgt := 34) hx hb dX3_readCommand_30 (by decide) ?_
        refine lv_astore_n (lv' := [(1, .ref (ad 2)), (0, .ref h_T)]) hx hb dX3_readCommand_34 rfl hl (by decide) rfl (fun ls hl => ?_)
        refine lv_aload_n hx hb dX3_readCommand_35 rfl (lv_at hl 0 rfl) ?_
        refine lv_ifnonnull (tgt := 41) hx hb dX3_readCommand_36 (by decide) ?_
        refine lv_aload_n hx hb dX3_readCommand_41 rfl (lv_at hl 1 rfl) ?_
        refine lv_aload_n hx hb dX3_readCommand_42 rfl (lv_at hl 0 rfl) ?_
        refine va_put (D := D) (ci := 6) (v := .ref (ad 2)) (ty := tyX3 3) (own := RX3) (C := RX3) (T := TX3) (N := 5) hx hb hts hi_X3 tyX3 tyX3_ok nmX3 hown hK hP hD hS 2 rfl rfl 3 (by decide) (hts (.fieldLink RX3 28 "CanalMaps$CommandText" "change" "LCanalMaps$Change;") (List.mem_of_getElem? (i := 4) (by decide +kernel))) (fun _ h9 => h9) rfl (by decide +kernel) rfl rfl (Nat.le_of_ble_eq_true rfl) dX3_readCommand_43 (fun H locs hP hD hS => ?_)
        have hP : va_P D vwCl [(h_sg, .inl (k_sg, 60, .inl sg)), (h_nu, .inl (k_nu, 3, .inl nu)), (h_T, .inr (6, [.ref h_sg, .int ln, .int pl, .ref (ad 2), .ref h_nu]))] H := hP
        have hD : va_D A [(h_sg, .inl (k_sg, 60, .inl sg)), (h_nu, .inl (k_nu, 3, .inl nu)), (h_T, .inr (6, [.ref h_sg, .int ln, .int pl, .ref (ad 2), .ref h_nu]))] := hD
        refine lv_aload_n hx hb dX3_readCommand_46 rfl (lv_at hl 1 rfl) ?_
        refine lv_dup hx hb dX3_readCommand_47 rfl ?_
        refine va_get (D := D) (ci := 6) (v := .int pl) (own := RX3) (C := RX3) (T := TX3) (N := 5) hx hb hts hi_X3 hown hK hP 2 rfl rfl 2 (by decide) (hts (.fieldLink RX3 19 "CanalMaps$CommandText" "place" "I") (List.mem_of_getElem? (i := 1) (by decide +kernel))) (fun _ h9 => h9) rfl dX3_readCommand_48 ?_
        refine lv_iconst (v := 1) hx hb dX3_readCommand_51 (by decide) ?_
        refine lv_iadd hx hb dX3_readCommand_52 ?_
        refine va_put (D := D) (ci := 6) (v := .int (pl + 1)) (ty := .int) (own := RX3) (C := RX3) (T := TX3) (N := 5) hx hb hts hi_X3 tyX3 tyX3_ok nmX3 hown hK hP hD hS 2 rfl rfl 2 (by decide) (hts (.fieldLink RX3 19 "CanalMaps$CommandText" "place" "I") (List.mem_of_getElem? (i := 1) (by decide +kernel))) (fun _ h9 => h9) rfl (by decide +kernel) rfl rfl (Nat.le_of_ble_eq_true rfl) dX3_readCommand_53 (fun H locs hP hD hS => ?_)
        have hP : va_P D vwCl [(h_sg, .inl (k_sg, 60, .inl sg)), (h_nu, .inl (k_nu, 3, .inl nu)), (h_T, .inr (6, [.ref h_sg, .int ln, .int (pl + 1), .ref (ad 2), .ref h_nu]))] H := hP
        have hD : va_D A [(h_sg, .inl (k_sg, 60, .inl sg)), (h_nu, .inl (k_nu, 3, .inl nu)), (h_T, .inr (6, [.ref h_sg, .int ln, .int (pl + 1), .ref (ad 2), .ref h_nu]))] := hD
        refine lv_aload_n hx hb dX3_readCommand_56 rfl (lv_at hl 1 rfl) ?_
        refine va_get (D := D) (ci := 6) (v := .ref h_nu) (own := RX3) (C := RX3) (T := TX3) (N := 5) hx hb hts hi_X3 hown hK hP 2 rfl rfl 4 (by decide) (hts (.fieldLink RX3 31 "CanalMaps$CommandText" "numbers" "[I") (List.mem_of_getElem? (i := 5) (by decide +kernel))) (fun _ h9 => h9) rfl dX3_readCommand_57 ?_
        refine lv_iconst (v := 0) hx hb dX3_readCommand_60 (by decide) ?_
        obtain ⟨y9, hy9⟩ : ∃ y9, (F_J7_fill_53178 nu 3 0) = y9 := ⟨_, rfl⟩
        have hcon := (c_J7_fill_53178 l hl0 D ad H.size h_nu k_nu 3 nu 0 (by decide +kernel))
        rw [hy9] at hcon
        refine kc_ (wc := [(h_nu, .inl (k_nu, 3, .inl nu))]) (wr := [(h_sg, .inl (k_sg, 60, .inl sg)), (h_T, .inr (6, [.ref h_sg, .int ln, .int (pl + 1), .ref (ad 2), .ref h_nu]))]) (va_runS (As := [.ref h_nu, .int 0]) (rest := []) ⟨hx, hb, hml, hown, hts⟩ hcon (va_cwS 2 hts gX3_readCommand_J7_fill_53178 rfl rfl rfl (by decide +kernel) ⟨Nat.le_of_ble_eq_true rfl, Nat.le_of_ble_eq_true rfl⟩) ⟨PC_.blind, PC_.pre hF hK hP hD hS hA [1] [1] rfl (by decide) rfl⟩ rfl rfl hl.1 rfl (lv_room (Nat.le_of_ble_eq_true rfl)) dX3_readCommand_61 ⟨(Nat.le_of_ble_eq_true rfl), (Nat.le_of_ble_eq_true rfl)⟩) hK hP hD hS hA [1] [0, 2] [0] rfl rfl (by decide) (by decide) rfl (fun qa_29 ka_29 ia H locs hpo hP hD hK hS => ?_)
        subst hy9
        have hP : va_P D vwCl [(h_sg, .inl (k_sg, 60, .inl sg)), (h_T, .inr (6, [.ref h_sg, .int ln, .int (pl + 1), .ref (ad 2), .ref h_nu])), (h_nu, .inl (k_nu, 3, .inl (F_J7_fill_53178 nu 3 0)))] H := hP
        have hD : va_D A [(h_sg, .inl (k_sg, 60, .inl sg)), (h_T, .inr (6, [.ref h_sg, .int ln, .int (pl + 1), .ref (ad 2), .ref h_nu])), (h_nu, .inl (k_nu, 3, .inl (F_J7_fill_53178 nu 3 0)))] := hD
        have hK : va_K D vwCl [(k_sg, .char), (k_nu, .int)] s := hK
        refine W.eq (g2 := F0 m 64 ls []) rfl ?_
        refine lv_aload_n hx hb dX3_readCommand_64 rfl (lv_at hl 1 rfl) ?_
        refine va_get (D := D) (ci := 6) (v := .ref (ad 2)) (own := RX3) (C := RX3) (T := TX3) (N := 5) hx hb hts hi_X3 hown hK hP 1 rfl rfl 3 (by decide) (hts (.fieldLink RX3 28 "CanalMaps$CommandText" "change" "LCanalMaps$Change;") (List.mem_of_getElem? (i := 4) (by decide +kernel))) (fun _ h9 => h9) rfl dX3_readCommand_65 ?_
        refine kgetfN_ (o := "CanalMaps$Change") (n := "form") (d := "Ljava/lang/String;") (q := ad 2) (v := .ref (ad 22)) hx hb (fxfo_ hF 2 (by decide)) hS hown (fxn_ hF (RX3, 58, "CanalMaps$Change", "form", "Ljava/lang/String;")) (fun _ h9 => h9) dX3_readCommand_68 ?_
        refine lv_astore_n (lv' := [(2, .ref (ad 22)), (1, .ref (ad 2)), (0, .ref h_T)]) hx hb dX3_readCommand_71 rfl hl (by decide) rfl (fun ls hl => ?_)
        refine lv_iconst (v := 0) hx hb dX3_readCommand_72 (by decide) ?_
        refine lv_istore_n (lv' := [(3, .int 0), (2, .ref (ad 22)), (1, .ref (ad 2)), (0, .ref h_T)]) hx hb dX3_readCommand_73 rfl hl (by decide) rfl (fun ls hl => ?_)
        refine lv_iload_n hx hb dX3_readCommand_74 rfl (lv_at hl 0 rfl) ?_
        refine lv_aload_n hx hb dX3_readCommand_75 rfl (lv_at hl 1 rfl) ?_
        refine kr_ (va_runV (As := []) (rest := [.int 0]) ⟨hx, hb, hml, hown, hts⟩ (c_J0_length_8abf5_ad22 l hl0 D ad H.size) (cwV 0 hts gX3_readCommand_J0_length_8abf5 rfl rfl rfl (by decide +kernel) ⟨Nat.le_of_ble_eq_true rfl, Nat.le_of_ble_eq_true rfl⟩) ⟨PR_.blind, vk_recv (fxst_ hF) (i := 2) (by decide) hS, PR_.pre hF hK (hP.sub [] rfl) hS hA [] rfl⟩ rfl rfl hl.1 rfl (lv_room (Nat.le_of_ble_eq_true rfl)) dX3_readCommand_76 ⟨(Nat.le_of_ble_eq_true rfl), (Nat.le_of_ble_eq_true rfl)⟩) hP hS hA (fun H locs hP hS => ?_)
        refine W.eq (g2 := F0 m 79 ls [.int 2, .int 0]) rfl ?_
        refine lv_icmp_ge (tgt := 102) hx hb dX3_readCommand_79 (by decide) (fun c9 => absurd c9 (by decide +kernel)) (fun _ => ?_)
        refine lv_aload_n hx hb dX3_readCommand_82 rfl (lv_at hl 3 rfl) ?_
        refine lv_aload_n hx hb dX3_readCommand_83 rfl (lv_at hl 1 rfl) ?_
        refine lv_iload_n hx hb dX3_readCommand_84 rfl (lv_at hl 0 rfl) ?_
        refine kr_ (va_runV (As := [.int 0]) (rest := [.ref h_T]) ⟨hx, hb, hml, hown, hts⟩ (c_J0_charAt_5068e_0_ad22 l hl0 D ad H.size) (cwV 1 hts gX3_readCommand_J0_charAt_5068e rfl rfl rfl (by decide +kernel) ⟨Nat.le_of_ble_eq_true rfl, Nat.le_of_ble_eq_true rfl⟩) ⟨PR_.blind, vk_recv (fxst_ hF) (i := 2) (by decide) hS, PR_.pre hF hK (hP.sub [] rfl) hS hA [] rfl⟩ rfl rfl hl.1 rfl (lv_room (Nat.le_of_ble_eq_true rfl)) dX3_readCommand_85 ⟨(Nat.le_of_ble_eq_true rfl), (Nat.le_of_ble_eq_true rfl)⟩) hP hS hA (fun H locs hP hS => ?_)
        refine W.eq (g2 := F0 m 88 ls [.int 48, .ref h_T]) rfl ?_
        have hcon := (c_X3_readPart_48 l hl0 D ad H.size h_sg h_nu h_T k_sg k_nu (.ref (ad 2)) sg (F_J7_fill_53178 nu 3 0) ln (pl + 1) (by have y0 := f_nlt c_1; have y1 := f_nle c_2; have z0 := hy0; have z1 := hy1; have z2 := hy2; have z3 := hy3; have e011 : (1 : Int32).toInt = 1 := (by decide +kernel); have rw1 := addI (a := pl) (b := 1) (by omega) (by omega); have e_0 : (0 : Int32).toInt = 0 := (by decide +kernel); omega) (by have y0 := f_nlt c_1; have y1 := f_nle c_2; have z0 := hy0; have z1 := hy1; have z2 := hy2; have z3 := hy3; have e011 : (1 : Int32).toInt = 1 := (by decide +kernel); have rw1 := addI (a := pl) (b := 1) (by omega) (by omega); have e_0 : (0 : Int32).toInt = 0 := (by decide +kernel); omega) (by have y0 := f_nlt c_1; have y1 := f_nle c_2; have z0 := hy0; have z1 := hy1; have z2 := hy2; have z3 := hy3; have e011 : (1 : Int32).toInt = 1 := (by decide +kernel); have rw1 := addI (a := pl) (b := 1) (by omega) (by omega); have e_0 : (0 : Int32).toInt = 0 := (by decide +kernel); have b193 := Int32.toInt_lt (pl); have d193 := Int32.le_toInt (pl); have l194 : (1 : Int32).toInt = 1 := (by decide +kernel); have q192 := addI (a := pl) (b := 1) (by omega) (by omega); omega) (by have y0 := f_nlt c_1; have y1 := f_nle c_2; have z0 := hy0; have z1 := hy1; have z2 := hy2; have z3 := hy3; have e011 : (1 : Int32).toInt = 1 := (by decide +kernel); have rw1 := addI (a := pl) (b := 1) (by omega) (by omega); have e_0 : (0 : Int32).toInt = 0 := (by decide +kernel); have b196 := Int32.toInt_lt (pl); have d196 := Int32.le_toInt (pl); have l197 : (1 : Int32).toInt = 1 := (by decide +kernel); have q195 := addI (a := pl) (b := 1) (by omega) (by omega); omega))
        generalize hy_32 : (F_X3_readPart_48 sg ln (pl + 1) (F_J7_fill_53178 nu 3 0)) = y9 at hcon hM
        obtain ⟨y88_0, y88_1, y88_2⟩ := y9
        refine kc_ (wc := [(h_sg, .inl (k_sg, 60, .inl sg)), (h_nu, .inl (k_nu, 3, .inl (F_J7_fill_53178 nu 3 0))), (h_T, .inr (6, [.ref h_sg, .int ln, .int (pl + 1), .ref (ad 2), .ref h_nu]))]) (wr := []) (va_runV (As := [.int 48]) (rest := []) ⟨hx, hb, hml, hown, hts⟩ hcon (cwV 1 hts gX3_readCommand_X3_readPart rfl rfl rfl (by decide +kernel) ⟨Nat.le_of_ble_eq_true rfl, Nat.le_of_ble_eq_true rfl⟩) ⟨PC_.blind, va_recv hK hP (ci := 6) (q0 := 1) rfl rfl, PC_.pre hF hK hP hD hS hA [0, 2, 1] [0, 1] rfl (by decide) rfl⟩ rfl rfl hl.1 rfl (lv_room (Nat.le_of_ble_eq_true rfl)) dX3_readCommand_88 ⟨(Nat.le_of_ble_eq_true rfl), (Nat.le_of_ble_eq_true rfl)⟩) hK hP hD hS hA [0, 2, 1] [] [] rfl rfl (by decide) (by decide) rfl (fun qa_32 ka_32 ia H locs hpo hP hD hK hS => ?_)
        have hM : F_X3_readCommand sg ln pl ch nu = (if y88_0 = 0 then (0, y88_1, y88_2, 2) else (K_X3_readCommand_88_3 sg ln (F_X3_readPart_49 sg ln y88_2 y88_1))) := hM
        have hen_32 : (pl + 1).toInt ≤ y88_2.toInt ∧ y88_2.toInt ≤ (pl + 1).toInt + 1 ∧ (y88_2.toInt ≤ 60 ∨ y88_2.toInt = (pl + 1).toInt) := hpo
        have hP : va_P D vwCl [(h_sg, .inl (k_sg, 60, .inl sg)), (h_nu, .inl (k_nu, 3, .inl y88_1)), (h_T, .inr (6, [.ref h_sg, .int ln, .int y88_2, .ref (ad 2), .ref h_nu]))] H := hP
        have hD : va_D A [(h_sg, .inl (k_sg, 60, .inl sg)), (h_nu, .inl (k_nu, 3, .inl y88_1)), (h_T, .inr (6, [.ref h_sg, .int ln, .int y88_2, .ref (ad 2), .ref h_nu]))] := hD
        have hK : va_K D vwCl [(k_sg, .char), (k_nu, .int)] s := hK
        refine W.eq (g2 := F0 m 91 ls [.int y88_0]) rfl ?_
        refine lv_if_ne (tgt := 96) hx hb dX3_readCommand_91 (by decide) (fun c_33 => ?_) (fun c_33 => ?_)
        · rw [if_neg c_33] at hM
          refine lv_iinc (v := 1) (lv' := [(3, .int 1), (2, .ref (ad 22)), (1, .ref (ad 2)), (0, .ref h_T)]) hx hb dX3_readCommand_96 hl (k := 0) rfl (by decide +kernel) (by decide) rfl (fun ls hl => ?_)
          refine lv_goto (tgt := 74) hx hb dX3_readCommand_99 (by decide) ?_
          refine lv_iload_n hx hb dX3_readCommand_74 rfl (lv_at hl 0 rfl) ?_
          refine lv_aload_n hx hb dX3_readCommand_75 rfl (lv_at hl 1 rfl) ?_
          refine kr_ (va_runV (As := []) (rest := [.int 1]) ⟨hx, hb, hml, hown, hts⟩ (c_J0_length_8abf5_ad22 l hl0 D ad H.size) (cwV 0 hts gX3_readCommand_J0_length_8abf5 rfl rfl rfl (by decide +kernel) ⟨Nat.le_of_ble_eq_true rfl, Nat.le_of_ble_eq_true rfl⟩) ⟨PR_.blind, vk_recv (fxst_ hF) (i := 2) (by decide) hS, PR_.pre hF hK (hP.sub [] rfl) hS hA [] rfl⟩ rfl rfl hl.1 rfl (lv_room (Nat.le_of_ble_eq_true rfl)) dX3_readCommand_76 ⟨(Nat.le_of_ble_eq_true rfl), (Nat.le_of_ble_eq_true rfl)⟩) hP hS hA (fun H locs hP hS => ?_)
          refine W.eq (g2 := F0 m 79 ls [.int 2, .int 1]) rfl ?_
          refine lv_icmp_ge (tgt := 102) hx hb dX3_readCommand_79 (by decide) (fun c9 => absurd c9 (by decide +kernel)) (fun _ => ?_)
          refine lv_aload_n hx hb dX3_readCommand_82 rfl (lv_at hl 3 rfl) ?_
          refine lv_aload_n hx hb dX3_readCommand_83 rfl (lv_at hl 1 rfl) ?_
          refine lv_iload_n hx hb dX3_readCommand_84 rfl (lv_at hl 0 rfl) ?_
          refine kr_ (va_runV (As := [.int 1]) (rest := [.ref h_T]) ⟨hx, hb, hml, hown, hts⟩ (c_J0_charAt_5068e_1_ad22 l hl0 D ad H.size) (cwV 1 hts gX3_readCommand_J0_charAt_5068e rfl rfl rfl (by decide +kernel) ⟨Nat.le_of_ble_eq_true rfl, Nat.le_of_ble_eq_true rfl⟩) ⟨PR_.blind, vk_recv (fxst_ hF) (i := 2) (by decide) hS, PR_.pre hF hK (hP.sub [] rfl) hS hA [] rfl⟩ rfl rfl hl.1 rfl (lv_room (Nat.le_of_ble_eq_true rfl)) dX3_readCommand_85 ⟨(Nat.le_of_ble_eq_true rfl), (Nat.le_of_ble_eq_true rfl)⟩) hP hS hA (fun H locs hP hS => ?_)
          refine W.eq (g2 := F0 m 88 ls [.int 49, .ref h_T]) rfl ?_
          have hcon := (c_X3_readPart_49 l hl0 D ad H.size h_sg h_nu h_T k_sg k_nu (.ref (ad 2)) sg y88_1 ln y88_2 (by have y0 := f_nlt c_1; have y1 := f_nle c_2; have y2 := f_neq c_33; have z0 := hy0; have z1 := hy1; have z2 := hy2; have z3 := hy3; have z4 := hen_32; have e011 : (1 : Int32).toInt = 1 := (by decide +kernel); have rw1 := addI (a := pl) (b := 1) (by omega) (by omega); have e_0 : (0 : Int32).toInt = 0 := (by decide +kernel); omega) (by have y0 := f_nlt c_1; have y1 := f_nle c_2; have y2 := f_neq c_33; have z0 := hy0; have z1 := hy1; have z2 := hy2; have z3 := hy3; have z4 := hen_32; have e011 : (1 : Int32).toInt = 1 := (by decide +kernel); have rw1 := addI (a := pl) (b := 1) (by omega) (by omega); have e_0 : (0 : Int32).toInt = 0 := (by decide +kernel); omega) (by have y0 := f_nlt c_1; have y1 := f_nle c_2; have y2 := f_neq c_33; have z0 := hy0; have z1 := hy1; have z2 := hy2; have z3 := hy3; have z4 := hen_32; have e011 : (1 : Int32).toInt = 1 := (by decide +kernel); have rw1 := addI (a := pl) (b := 1) (by omega) (by omega); have e_0 : (0 : Int32).toInt = 0 := (by decide +kernel); omega) (by have y0 := f_nlt c_1; have y1 := f_nle c_2; have y2 := f_neq c_33; have z0 := hy0; have z1 := hy1; have z2 := hy2; have z3 := hy3; have z4 := hen_32; have e011 : (1 : Int32).toInt = 1 := (by decide +kernel); have rw1 := addI (a := pl) (b := 1) (by omega) (by omega); have e_0 : (0 : Int32).toInt = 0 := (by decide +kernel); omega))
          generalize hy_36 : (F_X3_readPart_49 sg ln y88_2 y88_1) = y9 at hcon hM
          obtain ⟨y88b_0, y88b_1, y88b_2⟩ := y9
          refine kc_ (wc := [(h_sg, .inl (k_sg, 60, .inl sg)), (h_nu, .inl (k_nu, 3, .inl y88_1)), (h_T, .inr (6, [.ref h_sg, .int ln, .int y88_2, .ref (ad 2), .ref h_nu]))]) (wr := []) (va_runV (As := [.int 49]) (rest := []) ⟨hx, hb, hml, hown, hts⟩ hcon (cwV 1 hts gX3_readCommand_X3_readPart rfl rfl rfl (by decide +kernel) ⟨Nat.le_of_ble_eq_true rfl, Nat.le_of_ble_eq_true rfl⟩) ⟨PC_.blind, va_recv hK hP (ci := 6) (q0 := 2) rfl rfl, PC_.pre hF hK hP hD hS hA [0, 1, 2] [0, 1] rfl (by decide) rfl⟩ rfl rfl hl.1 rfl (lv_room (Nat.le_of_ble_eq_true rfl)) dX3_readCommand_88 ⟨(Nat.le_of_ble_eq_true rfl), (Nat.le_of_ble_eq_true rfl)⟩) hK hP hD hS hA [0, 1, 2] [] [] rfl rfl (by decide) (by decide) rfl (fun qa_36 ka_36 ia H locs hpo hP hD hK hS => ?_)
          have hM : F_X3_readCommand sg ln pl ch nu = (if y88b_0 = 0 then (0, y88b_1, y88b_2, 2) else (if ln ≤ y88b_2 then (1, y88b_1, y88b_2, 2) else (if (sg (ix y88b_2)) = 59 then (1, y88b_1, y88b_2, 2) else (0, y88b_1, y88b_2, 2)))) := hM
          have hen_36 : y88_2.toInt ≤ y88b_2.toInt ∧ y88b_2.toInt ≤ y88_2.toInt + 1 ∧ (y88b_2.toInt ≤ 60 ∨ y88b_2.toInt = y88_2.toInt) := hpo
          have hP : va_P D vwCl [(h_sg, .inl (k_sg, 60, .inl sg)), (h_nu, .inl (k_nu, 3, .inl y88b_1)), (h_T, .inr (6, [.ref h_sg, .int ln, .int y88b_2, .ref (ad 2), .ref h_nu]))] H := hP
          have hD : va_D A [(h_sg, .inl (k_sg, 60, .inl sg)), (h_nu, .inl (k_nu, 3, .inl y88b_1)), (h_T, .inr (6, [.ref h_sg, .int ln, .int y88b_2, .ref (ad 2), .ref h_nu]))] := hD
          have hK : va_K D vwCl [(k_sg, .char), (k_nu, .int)] s := hK
          refine W.eq (g2 := F0 m 91 ls [.int y88b_0]) rfl ?_
          refine lv_if_ne (tgt := 96) hx hb dX3_readCommand_91 (by decide) (fun c_37 => ?_) (fun c_37 => ?_)
          · rw [if_neg c_37] at hM
            refine lv_iinc (v := 2) (lv' := [(3, .int 2), (2, .ref (ad 22)), (1, .ref (ad 2)), (0, .ref h_T)]) hx hb dX3_readCommand_96 hl (k := 0) rfl (by decide +kernel) (by decide) rfl (fun ls hl => ?_)
            refine lv_goto (tgt := 74) hx hb dX3_readCommand_99 (by decide) ?_
            refine lv_iload_n hx hb dX3_readCommand_74 rfl (lv_at hl 0 rfl) ?_
            refine lv_aload_n hx hb dX3_readCommand_75 rfl (lv_at hl 1 rfl) ?_
            refine kr_ (va_runV (As := []) (rest := [.int 2]) ⟨hx, hb, hml, hown, hts⟩ (c_J0_length_8abf5_ad22 l hl0 D ad H.size) (cwV 0 hts gX3_readCommand_J0_length_8abf5 rfl rfl rfl (by decide +kernel) ⟨Nat.le_of_ble_eq_true rfl, Nat.le_of_ble_eq_true rfl⟩) ⟨PR_.blind, vk_recv (fxst_ hF) (i := 2) (by decide) hS, PR_.pre hF hK (hP.sub [] rfl) hS hA [] rfl⟩ rfl rfl hl.1 rfl (lv_room (Nat.le_of_ble_eq_true rfl)) dX3_readCommand_76 ⟨(Nat.le_of_ble_eq_true rfl), (Nat.le_of_ble_eq_true rfl)⟩) hP hS hA (fun H locs hP hS => ?_)
            refine W.eq (g2 := F0 m 79 ls [.int 2, .int 2]) rfl ?_
            refine lv_icmp_ge (tgt := 102) hx hb dX3_readCommand_79 (by decide) (fun _ => ?_) (fun c9 => absurd (by decide +kernel) c9)
            refine lv_aload_n hx hb dX3_readCommand_102 rfl (lv_at hl 3 rfl) ?_
            refine va_get (D := D) (ci := 6) (v := .int y88b_2) (own := RX3) (C := RX3) (T := TX3) (N := 5) hx hb hts hi_X3 hown hK hP 2 rfl rfl 2 (by decide) (hts (.fieldLink RX3 19 "CanalMaps$CommandText" "place" "I") (List.mem_of_getElem? (i := 1) (by decide +kernel))) (fun _ h9 => h9) rfl dX3_readCommand_103 ?_
            refine lv_aload_n hx hb dX3_readCommand_106 rfl (lv_at hl 3 rfl) ?_
            refine va_get (D := D) (ci := 6) (v := .int ln) (own := RX3) (C := RX3) (T := TX3) (N := 5) hx hb hts hi_X3 hown hK hP 2 rfl rfl 1 (by decide) (hts (.fieldLink RX3 15 "CanalMaps$CommandText" "length" "I") (List.mem_of_getElem? (i := 2) (by decide +kernel))) (fun _ h9 => h9) rfl dX3_readCommand_107 ?_
            refine lv_icmp_ge (tgt := 127) hx hb dX3_readCommand_110 (by decide) (fun c_39 => ?_) (fun c_39 => ?_)
            · rw [if_pos c_39] at hM
              refine lv_iconst (v := 1) hx hb dX3_readCommand_127 (by decide) ?_
              refine lv_goto (tgt := 132) hx hb dX3_readCommand_128 (by decide) ?_
              refine W.widen (k := 0) (n := 0) (Nat.le_of_ble_eq_true rfl) (Nat.le_of_ble_eq_true rfl) ?_
              exact W.zret (v := 1) hx hb hr rfl (QG_.mk (fun _ => 0) (fun _ => 0) (fun _ => 0) [0, 1, 2] [0, 1] hP hD hK hS (by rw [hM]) (by rw [hM]; exact ⟨(show pl.toInt ≤ y88b_2.toInt from (by have y0 := f_nlt c_1; have y1 := f_nle c_2; have y2 := f_neq c_33; have y3 := f_neq c_37; have y4 := f_le c_39; have z0 := hy0; have z1 := hy1; have z2 := hy2; have z3 := hy3; have z4 := hen_32; have z5 := hen_36; have e011 : (1 : Int32).toInt = 1 := (by decide +kernel); have rw1 := addI (a := pl) (b := 1) (by omega) (by omega); have e_0 : (0 : Int32).toInt = 0 := (by decide +kernel); have b200 := Int32.toInt_lt (y88b_2); have d200 := Int32.le_toInt (y88b_2); omega)), (show (y88b_2.toInt ≤ 60 ∨ y88b_2.toInt = pl.toInt) from (by have y0 := f_nlt c_1; have y1 := f_nle c_2; have y2 := f_neq c_33; have y3 := f_neq c_37; have y4 := f_le c_39; have z0 := hy0; have z1 := hy1; have z2 := hy2; have z3 := hy3; have z4 := hen_32; have z5 := hen_36; have e011 : (1 : Int32).toInt = 1 := (by decide +kernel); have rw1 := addI (a := pl) (b := 1) (by omega) (by omega); have e_0 : (0 : Int32).toInt = 0 := (by decide +kernel); have b201 := Int32.toInt_lt (y88b_2); have d201 := Int32.le_toInt (y88b_2); have b202 := Int32.toInt_lt (y88b_2); have d202 := Int32.le_toInt (y88b_2); omega)), (show (2 < 6 ∨ 2 = ch) from (by have y0 := f_nlt c_1; have y1 := f_nle c_2; have y2 := f_neq c_33; have y3 := f_neq c_37; have y4 := f_le c_39; have z0 := hy0; have z1 := hy1; have z2 := hy2; have z3 := hy3; have z4 := hen_32; have z5 := hen_36; have e011 : (1 : Int32).toInt = 1 := (by decide +kernel); have rw1 := addI (a := pl) (b := 1) (by omega) (by omega); have e_0 : (0 : Int32).toInt = 0 := (by decide +kernel); omega))⟩) (by first | (rw [hM]; rfl) | rfl) (by decide) rfl) hS.2.2 dX3_readCommand_132
            · rw [if_neg c_39] at hM
              refine lv_aload_n hx hb dX3_readCommand_113 rfl (lv_at hl 3 rfl) ?_
              refine va_get (D := D) (ci := 6) (v := .ref h_sg) (own := RX3) (C := RX3) (T := TX3) (N := 5) hx hb hts hi_X3 hown hK hP 2 rfl rfl 0 (by decide) (hts (.fieldLink RX3 9 "CanalMaps$CommandText" "signs" "[C") (List.mem_of_getElem? (i := 3) (by decide +kernel))) (fun _ h9 => h9) rfl dX3_readCommand_114 ?_
              refine lv_aload_n hx hb dX3_readCommand_117 rfl (lv_at hl 3 rfl) ?_
              refine va_get (D := D) (ci := 6) (v := .int y88b_2) (own := RX3) (C := RX3) (T := TX3) (N := 5) hx hb hts hi_X3 hown hK hP 2 rfl rfl 2 (by decide) (hts (.fieldLink RX3 19 "CanalMaps$CommandText" "place" "I") (List.mem_of_getElem? (i := 1) (by decide +kernel))) (fun _ h9 => h9) rfl dX3_readCommand_118 ?_
              refine va_cald hx hb hK hP 0 0 rfl rfl (vinI (by have y0 := f_nlt c_1; have y1 := f_nle c_2; have y2 := f_neq c_33; have y3 := f_neq c_37; have y4 := f_nle c_39; have z0 := hy0; have z1 := hy1; have z2 := hy2; have z3 := hy3; have z4 := hen_32; have z5 := hen_36; have e011 : (1 : Int32).toInt = 1 := (by decide +kernel); have rw1 := addI (a := pl) (b := 1) (by omega) (by omega); have e_0 : (0 : Int32).toInt = 0 := (by decide +kernel); have b203 := Int32.toInt_lt (y88b_2); have d203 := Int32.le_toInt (y88b_2); omega) (by have y0 := f_nlt c_1; have y1 := f_nle c_2; have y2 := f_neq c_33; have y3 := f_neq c_37; have y4 := f_nle c_39; have z0 := hy0; have z1 := hy1; have z2 := hy2; have z3 := hy3; have z4 := hen_32; have z5 := hen_36; have e011 : (1 : Int32).toInt = 1 := (by decide +kernel); have rw1 := addI (a := pl) (b := 1) (by omega) (by omega); have e_0 : (0 : Int32).toInt = 0 := (by decide +kernel); have b203 := Int32.toInt_lt (y88b_2); have d203 := Int32.le_toInt (y88b_2); omega)) dX3_readCommand_121 ?_
              refine kt_ (v := (sg (ix y88b_2))) rfl ?_
              refine lv_bipush (v := 59) hx hb dX3_readCommand_122 (by decide) ?_
              refine lv_icmp_ne (tgt := 131) hx hb dX3_readCommand_124 (by decide) (fun c_40 => ?_) (fun c_40 => ?_)
              · rw [if_neg c_40] at hM
                refine lv_iconst (v := 0) hx hb dX3_readCommand_131 (by decide) ?_
                refine W.widen (k := 0) (n := 0) (Nat.le_of_ble_eq_true rfl) (Nat.le_of_ble_eq_true rfl) ?_
                exact W.zret (v := 0) hx hb hr rfl (QG_.mk (fun _ => 0) (fun _ => 0) (fun _ => 0) [0, 1, 2] [0, 1] hP hD hK hS (by rw [hM]) (by rw [hM]; exact ⟨(show pl.toInt ≤ y88b_2.toInt from (by have y0 := f_nlt c_1; have y1 := f_nle c_2; have y2 := f_neq c_33; have y3 := f_neq c_37; have y4 := f_nle c_39; have y5 := f_neq c_40; have z0 := hy0; have z1 := hy1; have z2 := hy2; have z3 := hy3; have z4 := hen_32; have z5 := hen_36; have e011 : (1 : Int32).toInt = 1 := (by decide +kernel); have rw1 := addI (a := pl) (b := 1) (by omega) (by omega); have e_0 : (0 : Int32).toInt = 0 := (by decide +kernel); have e_59 : (59 : Int32).toInt = 59 := (by decide +kernel); have b204 := Int32.toInt_lt (y88b_2); have d204 := Int32.le_toInt (y88b_2); have x0 := ix_toNat y88b_2; omega)), (show (y88b_2.toInt ≤ 60 ∨ y88b_2.toInt = pl.toInt) from (by have y0 := f_nlt c_1; have y1 := f_nle c_2; have y2 := f_neq c_33; have y3 := f_neq c_37; have y4 := f_nle c_39; have y5 := f_neq c_40; have z0 := hy0; have z1 := hy1; have z2 := hy2; have z3 := hy3; have z4 := hen_32; have z5 := hen_36; have e011 : (1 : Int32).toInt = 1 := (by decide +kernel); have rw1 := addI (a := pl) (b := 1) (by omega) (by omega); have e_0 : (0 : Int32).toInt = 0 := (by decide +kernel); have e_59 : (59 : Int32).toInt = 59 := (by decide +kernel); have b205 := Int32.toInt_lt (y88b_2); have d205 := Int32.le_toInt (y88b_2); have b206 := Int32.toInt_lt (y88b_2); have d206 := Int32.le_toInt (y88b_2); have x0 := ix_toNat y88b_2; omega)), (show (2 < 6 ∨ 2 = ch) from (by have y0 := f_nlt c_1; have y1 := f_nle c_2; have y2 := f_neq c_33; have y3 := f_neq c_37; have y4 := f_nle c_39; have y5 := f_neq c_40; have z0 := hy0; have z1 := hy1; have z2 := hy2; have z3 := hy3; have z4 := hen_32; have z5 := hen_36; have e011 : (1 : Int32).toInt = 1 := (by decide +kernel); have rw1 := addI (a := pl) (b := 1) (by omega) (by omega); have e_0 : (0 : Int32).toInt = 0 := (by decide +kernel); have e_59 : (59 : Int32).toInt = 59 := (by decide +kernel); have x0 := ix_toNat y88b_2; omega))⟩) (by first | (rw [hM]; rfl) | rfl) (by decide) rfl) hS.2.2 dX3_readCommand_132
              · rw [if_pos c_40] at hM
                refine lv_iconst (v := 1) hx hb dX3_readCommand_127 (by decide) ?_
                refine lv_goto (tgt := 132) hx hb dX3_readCommand_128 (by decide) ?_
                refine W.widen (k := 0) (n := 0) (Nat.le_of_ble_eq_true rfl) (Nat.le_of_ble_eq_true rfl) ?_
                exact W.zret (v := 1) hx hb hr rfl (QG_.mk (fun _ => 0) (fun _ => 0) (fun _ => 0) [0, 1, 2] [0, 1] hP hD hK hS (by rw [hM]) (by rw [hM]; exact ⟨(show pl.toInt ≤ y88b_2.toInt from (by have y0 := f_nlt c_1; have y1 := f_nle c_2; have y2 := f_neq c_33; have y3 := f_neq c_37; have y4 := f_nle c_39; have y5 := f_eq c_40; have z0 := hy0; have z1 := hy1; have z2 := hy2; have z3 := hy3; have z4 := hen_32; have z5 := hen_36; have e011 : (1 : Int32).toInt = 1 := (by decide +kernel); have rw1 := addI (a := pl) (b := 1) (by omega) (by omega); have e_0 : (0 : Int32).toInt = 0 := (by decide +kernel); have e_59 : (59 : Int32).toInt = 59 := (by decide +kernel); have b207 := Int32.toInt_lt (y88b_2); have d207 := Int32.le_toInt (y88b_2); have x0 := ix_toNat y88b_2; omega)), (show (y88b_2.toInt ≤ 60 ∨ y88b_2.toInt = pl.toInt) from (by have y0 := f_nlt c_1; have y1 := f_nle c_2; have y2 := f_neq c_33; have y3 := f_neq c_37; have y4 := f_nle c_39; have y5 := f_eq c_40; have z0 := hy0; have z1 := hy1; have z2 := hy2; have z3 := hy3; have z4 := hen_32; have z5 := hen_36; have e011 : (1 : Int32).toInt = 1 := (by decide +kernel); have rw1 := addI (a := pl) (b := 1) (by omega) (by omega); have e_0 : (0 : Int32).toInt = 0 := (by decide +kernel); have e_59 : (59 : Int32).toInt = 59 := (by decide +kernel); have b208 := Int32.toInt_lt (y88b_2); have d208 := Int32.le_toInt (y88b_2); have b209 := Int32.toInt_lt (y88b_2); have d209 := Int32.le_toInt (y88b_2); have x0 := ix_toNat y88b_2; omega)), (show (2 < 6 ∨ 2 = ch) from (by have y0 := f_nlt c_1; have y1 := f_nle c_2; have y2 := f_neq c_33; have y3 := f_neq c_37; have y4 := f_nle c_39; have y5 := f_eq c_40; have z0 := hy0; have z1 := hy1; have z2 := hy2; have z3 := hy3; have z4 := hen_32; have z5 := hen_36; have e011 : (1 : Int32).toInt = 1 := (by decide +kernel); have rw1 := addI (a := pl) (b := 1) (by omega) (by omega); have e_0 : (0 : Int32).toInt = 0 := (by decide +kernel); have e_59 : (59 : Int32).toInt = 59 := (by decide +kernel); have x0 := ix_toNat y88b_2; omega))⟩) (by first | (rw [hM]; rfl) | rfl) (by decide) rfl) hS.2.2 dX3_readCommand_132
          · rw [if_pos c_37] at hM
            refine lv_iconst (v := 0) hx hb dX3_readCommand_94 (by decide) ?_
            refine W.widen (k := 0) (n := 0) (Nat.le_of_ble_eq_true rfl) (Nat.le_of_ble_eq_true rfl) ?_
            exact W.zret (v := 0) hx hb hr rfl (QG_.mk (fun _ => 0) (fun _ => 0) (fun _ => 0) [0, 1, 2] [0, 1] hP hD hK hS (by rw [hM]) (by rw [hM]; exact ⟨(show pl.toInt ≤ y88b_2.toInt from (by have y0 := f_nlt c_1; have y1 := f_nle c_2; have y2 := f_neq c_33; have y3 := f_eq c_37; have z0 := hy0; have z1 := hy1; have z2 := hy2; have z3 := hy3; have z4 := hen_32; have z5 := hen_36; have e011 : (1 : Int32).toInt = 1 := (by decide +kernel); have rw1 := addI (a := pl) (b := 1) (by omega) (by omega); have e_0 : (0 : Int32).toInt = 0 := (by decide +kernel); have b210 := Int32.toInt_lt (y88b_2); have d210 := Int32.le_toInt (y88b_2); omega)), (show (y88b_2.toInt ≤ 60 ∨ y88b_2.toInt = pl.toInt) from (by have y0 := f_nlt c_1; have y1 := f_nle c_2; have y2 := f_neq c_33; have y3 := f_eq c_37; have z0 := hy0; have z1 := hy1; have z2 := hy2; have z3 := hy3; have z4 := hen_32; have z5 := hen_36; have e011 : (1 : Int32).toInt = 1 := (by decide +kernel); have rw1 := addI (a := pl) (b := 1) (by omega) (by omega); have e_0 : (0 : Int32).toInt = 0 := (by decide +kernel); have b211 := Int32.toInt_lt (y88b_2); have d211 := Int32.le_toInt (y88b_2); have b212 := Int32.toInt_lt (y88b_2); have d212 := Int32.le_toInt (y88b_2); omega)), (show (2 < 6 ∨ 2 = ch) from (by have y0 := f_nlt c_1; have y1 := f_nle c_2; have y2 := f_neq c_33; have y3 := f_eq c_37; have z0 := hy0; have z1 := hy1; have z2 := hy2; have z3 := hy3; have z4 := hen_32; have z5 := hen_36; have e011 : (1 : Int32).toInt = 1 := (by decide +kernel); have rw1 := addI (a := pl) (b := 1) (by omega) (by omega); have e_0 : (0 : Int32).toInt = 0 := (by decide +kernel); omega))⟩) (by first | (rw [hM]; rfl) | rfl) (by decide) rfl) hS.2.2 dX3_readCommand_95
        · rw [if_pos c_33] at hM
          refine lv_iconst (v := 0) hx hb dX3_readCommand_94 (by decide) ?_
          refine W.widen (k := 0) (n := 0) (Nat.le_of_ble_eq_true rfl) (Nat.le_of_ble_eq_true rfl) ?_
          exact W.zret (v := 0) hx hb hr rfl (QG_.mk (fun _ => 0) (fun _ => 0) (fun _ => 0) [0, 1, 2] [0, 1] hP hD hK hS (by rw [hM]) (by rw [hM]; exact ⟨(show pl.toInt ≤ y88_2.toInt from (by have y0 := f_nlt c_1; have y1 := f_nle c_2; have y2 := f_eq c_33; have z0 := hy0; have z1 := hy1; have z2 := hy2; have z3 := hy3; have z4 := hen_32; have e011 : (1 : Int32).toInt = 1 := (by decide +kernel); have rw1 := addI (a := pl) (b := 1) (by omega) (by omega); have e_0 : (0 : Int32).toInt = 0 := (by decide +kernel); have b213 := Int32.toInt_lt (y88_2); have d213 := Int32.le_toInt (y88_2); omega)), (show (y88_2.toInt ≤ 60 ∨ y88_2.toInt = pl.toInt) from (by have y0 := f_nlt c_1; have y1 := f_nle c_2; have y2 := f_eq c_33; have z0 := hy0; have z1 := hy1; have z2 := hy2; have z3 := hy3; have z4 := hen_32; have e011 : (1 : Int32).toInt = 1 := (by decide +kernel); have rw1 := addI (a := pl) (b := 1) (by omega) (by omega); have e_0 : (0 : Int32).toInt = 0 := (by decide +kernel); have b214 := Int32.toInt_lt (y88_2); have d214 := Int32.le_toInt (y88_2); have b215 := Int32.toInt_lt (y88_2); have d215 := Int32.le_toInt (y88_2); omega)), (show (2 < 6 ∨ 2 = ch) from (by have y0 := f_nlt c_1; have y1 := f_nle c_2; have y2 := f_eq c_33; have z0 := hy0; have z1 := hy1; have z2 := hy2; have z3 := hy3; have z4 := hen_32; have e011 : (1 : Int32).toInt = 1 := (by decide +kernel); have rw1 := addI (a := pl) (b := 1) (by omega) (by omega); have e_0 : (0 : Int32).toInt = 0 := (by decide +kernel); omega))⟩) (by first | (rw [hM]; rfl) | rfl) (by decide) rfl) hS.2.2 dX3_readCommand_95
      · rw [c_4]
        rw [if_neg (show ¬ (F_X2_beginningWith (sg (ix pl))) = 0 from by rw [c_4]; decide)] at hM
        rw [if_neg (show ¬ (F_X2_beginningWith (sg (ix pl))) = 1 from by rw [c_4]; decide)] at hM
        rw [if_neg (show ¬ (F_X2_beginningWith (sg (ix pl))) = 2 from by rw [c_4]; decide)] at hM
        rw [if_pos c_4] at hM
        refine W.eq (g2 := F0 m 30 ls [.ref (ad 3)]) rfl ?_
        refine lv_goto (tgt := 34) hx hb dX3_readCommand_30 (by decide) ?_
        refine lv_astore_n (lv' := [(1, .ref (ad 3)), (0, .ref h_T)]) hx hb dX3_readCommand_34 rfl hl (by decide) rfl (fun ls hl => ?_)
        refine lv_aload_n hx hb dX3_readCommand_35 rfl (lv_at hl 0 rfl) ?_
        refine lv_ifnonnull (tgt := 41) hx hb dX3_readCommand_36 (by decide) ?_
        refine lv_aload_n hx hb dX3_readCommand_41 rfl (lv_at hl 1 rfl) ?_
        refine lv_aload_n hx hb dX3_readCommand_42 rfl (lv_at hl 0 rfl) ?_
        refine va_put (D := D) (ci := 6) (v := .ref (ad 3)) (ty := tyX3 3) (own := RX3) (C := RX3) (T := TX3) (N := 5) hx hb hts hi_X3 tyX3 tyX3_ok nmX3 hown hK hP hD hS 2 rfl rfl 3 (by decide) (hts (.fieldLink RX3 28 "CanalMaps$CommandText" "change" "LCanalMaps$Change;") (List.mem_of_getElem? (i := 4) (by decide +kernel))) (fun _ h9 => h9) rfl (by decide +kernel) rfl rfl (Nat.le_of_ble_eq_true rfl) dX3_readCommand_43 (fun H locs hP hD hS => ?_)
        have hP : va_P D vwCl [(h_sg, .inl (k_sg, 60, .inl sg)), (h_nu, .inl (k_nu, 3, .inl nu)), (h_T, .inr (6, [.ref h_sg, .int ln, .int pl, .ref (ad 3), .ref h_nu]))] H := hP
        have hD : va_D A [(h_sg, .inl (k_sg, 60, .inl sg)), (h_nu, .inl (k_nu, 3, .inl nu)), (h_T, .inr (6, [.ref h_sg, .int ln, .int pl, .ref (ad 3), .ref h_nu]))] := hD
        refine lv_aload_n hx hb dX3_readCommand_46 rfl (lv_at hl 1 rfl) ?_
        refine lv_dup hx hb dX3_readCommand_47 rfl ?_
        refine va_get (D := D) (ci := 6) (v := .int pl) (own := RX3) (C := RX3) (T := TX3) (N := 5) hx hb hts hi_X3 hown hK hP 2 rfl rfl 2 (by decide) (hts (.fieldLink RX3 19 "CanalMaps$CommandText" "place" "I") (List.mem_of_getElem? (i := 1) (by decide +kernel))) (fun _ h9 => h9) rfl dX3_readCommand_48 ?_
        refine lv_iconst (v := 1) hx hb dX3_readCommand_51 (by decide) ?_
        refine lv_iadd hx hb dX3_readCommand_52 ?_
        refine va_put (D := D) (ci := 6) (v := .int (pl + 1)) (ty := .int) (own := RX3) (C := RX3) (T := TX3) (N := 5) hx hb hts hi_X3 tyX3 tyX3_ok nmX3 hown hK hP hD hS 2 rfl rfl 2 (by decide) (hts (.fieldLink RX3 19 "CanalMaps$CommandText" "place" "I") (List.mem_of_getElem? (i := 1) (by decide +kernel))) (fun _ h9 => h9) rfl (by decide +kernel) rfl rfl (Nat.le_of_ble_eq_true rfl) dX3_readCommand_53 (fun H locs hP hD hS => ?_)
        have hP : va_P D vwCl [(h_sg, .inl (k_sg, 60, .inl sg)), (h_nu, .inl (k_nu, 3, .inl nu)), (h_T, .inr (6, [.ref h_sg, .int ln, .int (pl + 1), .ref (ad 3), .ref h_nu]))] H := hP
        have hD : va_D A [(h_sg, .inl (k_sg, 60, .inl sg)), (h_nu, .inl (k_nu, 3, .inl nu)), (h_T, .inr (6, [.ref h_sg, .int ln, .int (pl + 1), .ref (ad 3), .ref h_nu]))] := hD
        refine lv_aload_n hx hb dX3_readCommand_56 rfl (lv_at hl 1 rfl) ?_
        refine va_get (D := D) (ci := 6) (v := .ref h_nu) (own := RX3) (C := RX3) (T := TX3) (N := 5) hx hb hts hi_X3 hown hK hP 2 rfl rfl 4 (by decide) (hts (.fieldLink RX3 31 "CanalMaps$CommandText" "numbers" "[I") (List.mem_of_getElem? (i := 5) (by decide +kernel))) (fun _ h9 => h9) rfl dX3_readCommand_57 ?_
        refine lv_iconst (v := 0) hx hb dX3_readCommand_60 (by decide) ?_
        obtain ⟨y9, hy9⟩ : ∃ y9, (F_J7_fill_53178 nu 3 0) = y9 := ⟨_, rfl⟩
        have hcon := (c_J7_fill_53178 l hl0 D ad H.size h_nu k_nu 3 nu 0 (by decide +kernel))
        rw [hy9] at hcon
        refine kc_ (wc := [(h_nu, .inl (k_nu, 3, .inl nu))]) (wr := [(h_sg, .inl (k_sg, 60, .inl sg)), (h_T, .inr (6, [.ref h_sg, .int ln, .int (pl + 1), .ref (ad 3), .ref h_nu]))]) (va_runS (As := [.ref h_nu, .int 0]) (rest := []) ⟨hx, hb, hml, hown, hts⟩ hcon (va_cwS 2 hts gX3_readCommand_J7_fill_53178 rfl rfl rfl (by decide +kernel) ⟨Nat.le_of_ble_eq_true rfl, Nat.le_of_ble_eq_true rfl⟩) ⟨PC_.blind, PC_.pre hF hK hP hD hS hA [1] [1] rfl (by decide) rfl⟩ rfl rfl hl.1 rfl (lv_room (Nat.le_of_ble_eq_true rfl)) dX3_readCommand_61 ⟨(Nat.le_of_ble_eq_true rfl), (Nat.le_of_ble_eq_true rfl)⟩) hK hP hD hS hA [1] [0, 2] [0] rfl rfl (by decide) (by decide) rfl (fun qa_41 ka_41 ia H locs hpo hP hD hK hS => ?_)
        subst hy9
        have hP : va_P D vwCl [(h_sg, .inl (k_sg, 60, .inl sg)), (h_T, .inr (6, [.ref h_sg, .int ln, .int (pl + 1), .ref (ad 3), .ref h_nu])), (h_nu, .inl (k_nu, 3, .inl (F_J7_fill_53178 nu 3 0)))] H := hP
        have hD : va_D A [(h_sg, .inl (k_sg, 60, .inl sg)), (h_T, .inr (6, [.ref h_sg, .int ln, .int (pl + 1), .ref (ad 3), .ref h_nu])), (h_nu, .inl (k_nu, 3, .inl (F_J7_fill_53178 nu 3 0)))] := hD
        have hK : va_K D vwCl [(k_sg, .char), (k_nu, .int)] s := hK
        refine W.eq (g2 := F0 m 64 ls []) rfl ?_
        refine lv_aload_n hx hb dX3_readCommand_64 rfl (lv_at hl 1 rfl) ?_
        refine va_get (D := D) (ci := 6) (v := .ref (ad 3)) (own := RX3) (C := RX3) (T := TX3) (N := 5) hx hb hts hi_X3 hown hK hP 1 rfl rfl 3 (by decide) (hts (.fieldLink RX3 28 "CanalMaps$CommandText" "change" "LCanalMaps$Change;") (List.mem_of_getElem? (i := 4) (by decide +kernel))) (fun _ h9 => h9) rfl dX3_readCommand_65 ?_
        refine kgetfN_ (o := "CanalMaps$Change") (n := "form") (d := "Ljava/lang/String;") (q := ad 3) (v := .ref (ad 23)) hx hb (fxfo_ hF 3 (by decide)) hS hown (fxn_ hF (RX3, 58, "CanalMaps$Change", "form", "Ljava/lang/String;")) (fun _ h9 => h9) dX3_readCommand_68 ?_
        refine lv_astore_n (lv' := [(2, .ref (ad 23)), (1, .ref (ad 3)), (0, .ref h_T)]) hx hb dX3_readCommand_71 rfl hl (by decide) rfl (fun ls hl => ?_)
        refine lv_iconst (v := 0) hx hb dX3_readCommand_72 (by decide) ?_
        refine lv_istore_n (lv' := [(3, .int 0), (2, .ref (ad 23)), (1, .ref (ad 3)), (0, .ref h_T)]) hx hb dX3_readCommand_73 rfl hl (by decide) rfl (fun ls hl => ?_)
        refine lv_iload_n hx hb dX3_readCommand_74 rfl (lv_at hl 0 rfl) ?_
        refine lv_aload_n hx hb dX3_readCommand_75 rfl (lv_at hl 1 rfl) ?_
        refine kr_ (va_runV (As := []) (rest := [.int 0]) ⟨hx, hb, hml, hown, hts⟩ (c_J0_length_8abf5_ad23 l hl0 D ad H.size) (cwV 0 hts gX3_readCommand_J0_length_8abf5 rfl rfl rfl (by decide +kernel) ⟨Nat.le_of_ble_eq_true rfl, Nat.le_of_ble_eq_true rfl⟩) ⟨PR_.blind, vk_recv (fxst_ hF) (i := 3) (by decide) hS, PR_.pre hF hK (hP.sub [] rfl) hS hA [] rfl⟩ rfl rfl hl.1 rfl (lv_room (Nat.le_of_ble_eq_true rfl)) dX3_readCommand_76 ⟨(Nat.le_of_ble_eq_true rfl), (Nat.le_of_ble_eq_true rfl)⟩) hP hS hA (fun H locs hP hS => ?_)
        refine W.eq (g2 := F0 m 79 ls [.int 3, .int 0]) rfl ?_
        refine lv_icmp_ge (tgt := 102) hx hb dX3_readCommand_79 (by decide) (fun c9 => absurd c9 (by decide +kernel)) (fun _ => ?_)
        refine lv_aload_n hx hb dX3_readCommand_82 rfl (lv_at hl 3 rfl) ?_
        refine lv_aload_n hx hb dX3_readCommand_83 rfl (lv_at hl 1 rfl) ?_
        refine lv_iload_n hx hb dX3_readCommand_84 rfl (lv_at hl 0 rfl) ?_
        refine kr_ (va_runV (As := [.int 0]) (rest := [.ref h_T]) ⟨hx, hb, hml, hown, hts⟩ (c_J0_charAt_5068e_0_ad23 l hl0 D ad H.size) (cwV 1 hts gX3_readCommand_J0_charAt_5068e rfl rfl rfl (by decide +kernel) ⟨Nat.le_of_ble_eq_true rfl, Nat.le_of_ble_eq_true rfl⟩) ⟨PR_.blind, vk_recv (fxst_ hF) (i := 3) (by decide) hS, PR_.pre hF hK (hP.sub [] rfl) hS hA [] rfl⟩ rfl rfl hl.1 rfl (lv_room (Nat.le_of_ble_eq_true rfl)) dX3_readCommand_85 ⟨(Nat.le_of_ble_eq_true rfl), (Nat.le_of_ble_eq_true rfl)⟩) hP hS hA (fun H locs hP hS => ?_)
        refine W.eq (g2 := F0 m 88 ls [.int 48, .ref h_T]) rfl ?_
        have hcon := (c_X3_readPart_48 l hl0 D ad H.size h_sg h_nu h_T k_sg k_nu (.ref (ad 3)) sg (F_J7_fill_53178 nu 3 0) ln (pl + 1) (by have y0 := f_nlt c_1; have y1 := f_nle c_2; have z0 := hy0; have z1 := hy1; have z2 := hy2; have z3 := hy3; have e011 : (1 : Int32).toInt = 1 := (by decide +kernel); have rw1 := addI (a := pl) (b := 1) (by omega) (by omega); have e_0 : (0 : Int32).toInt = 0 := (by decide +kernel); omega) (by have y0 := f_nlt c_1; have y1 := f_nle c_2; have z0 := hy0; have z1 := hy1; have z2 := hy2; have z3 := hy3; have e011 : (1 : Int32).toInt = 1 := (by decide +kernel); have rw1 := addI (a := pl) (b := 1) (by omega) (by omega); have e_0 : (0 : Int32).toInt = 0 := (by decide +kernel); omega) (by have y0 := f_nlt c_1; have y1 := f_nle c_2; have z0 := hy0; have z1 := hy1; have z2 := hy2; have z3 := hy3; have e011 : (1 : Int32).toInt = 1 := (by decide +kernel); have rw1 := addI (a := pl) (b := 1) (by omega) (by omega); have e_0 : (0 : Int32).toInt = 0 := (by decide +kernel); have b217 := Int32.toInt_lt (pl); have d217 := Int32.le_toInt (pl); have l218 : (1 : Int32).toInt = 1 := (by decide +kernel); have q216 := addI (a := pl) (b := 1) (by omega) (by omega); omega) (by have y0 := f_nlt c_1; have y1 := f_nle c_2; have z0 := hy0; have z1 := hy1; have z2 := hy2; have z3 := hy3; have e011 : (1 : Int32).toInt = 1 := (by decide +kernel); have rw1 := addI (a := pl) (b := 1) (by omega) (by omega); have e_0 : (0 : Int32).toInt = 0 := (by decide +kernel); have b220 := Int32.toInt_lt (pl); have d220 := Int32.le_toInt (pl); have l221 : (1 : Int32).toInt = 1 := (by decide +kernel); have q219 := addI (a := pl) (b := 1) (by omega) (by omega); omega))
        generalize hy_44 : (F_X3_readPart_48 sg ln (pl + 1) (F_J7_fill_53178 nu 3 0)) = y9 at hcon hM
        obtain ⟨y88_0, y88_1, y88_2⟩ := y9
        refine kc_ (wc := [(h_sg, .inl (k_sg, 60, .inl sg)), (h_nu, .inl (k_nu, 3, .inl (F_J7_fill_53178 nu 3 0))), (h_T, .inr (6, [.ref h_sg, .int ln, .int (pl + 1), .ref (ad 3), .ref h_nu]))]) (wr := []) (va_runV (As := [.int 48]) (rest := []) ⟨hx, hb, hml, hown, hts⟩ hcon (cwV 1 hts gX3_readCommand_X3_readPart rfl rfl rfl (by decide +kernel) ⟨Nat.le_of_ble_eq_true rfl, Nat.le_of_ble_eq_true rfl⟩) ⟨PC_.blind, va_recv hK hP (ci := 6) (q0 := 1) rfl rfl, PC_.pre hF hK hP hD hS hA [0, 2, 1] [0, 1] rfl (by decide) rfl⟩ rfl rfl hl.1 rfl (lv_room (Nat.le_of_ble_eq_true rfl)) dX3_readCommand_88 ⟨(Nat.le_of_ble_eq_true rfl), (Nat.le_of_ble_eq_true rfl)⟩) hK hP hD hS hA [0, 2, 1] [] [] rfl rfl (by decide) (by decide) rfl (fun qa_44 ka_44 ia H locs hpo hP hD hK hS => ?_)
        have hM : F_X3_readCommand sg ln pl ch nu = (if y88_0 = 0 then (0, y88_1, y88_2, 3) else (if (F_X3_readPart_61 sg ln y88_2).1 = 0 then (0, y88_1, (F_X3_readPart_61 sg ln y88_2).2, 3) else (K_X3_readCommand_88_5 sg ln (F_X3_readPart_49 sg ln ((F_X3_readPart_61 sg ln y88_2).2) y88_1)))) := hM
        have hen_44 : (pl + 1).toInt ≤ y88_2.toInt ∧ y88_2.toInt ≤ (pl + 1).toInt + 1 ∧ (y88_2.toInt ≤ 60 ∨ y88_2.toInt = (pl + 1).toInt) := hpo
        have hP : va_P D vwCl [(h_sg, .inl (k_sg, 60, .inl sg)), (h_nu, .inl (k_nu, 3, .inl y88_1)), (h_T, .inr (6, [.ref h_sg, .int ln, .int y88_2, .ref (ad 3), .ref h_nu]))] H := hP
        have hD : va_D A [(h_sg, .inl (k_sg, 60, .inl sg)), (h_nu, .inl (k_nu, 3, .inl y88_1)), (h_T, .inr (6, [.ref h_sg, .int ln, .int y88_2, .ref (ad 3), .ref h_nu]))] := hD
        have hK : va_K D vwCl [(k_sg, .char), (k_nu, .int)] s := hK
        refine W.eq (g2 := F0 m 91 ls [.int y88_0]) rfl ?_
        refine lv_if_ne (tgt := 96) hx hb dX3_readCommand_91 (by decide) (fun c_45 => ?_) (fun c_45 => ?_)
        · rw [if_neg c_45] at hM
          refine lv_iinc (v := 1) (lv' := [(3, .int 1), (2, .ref (ad 23)), (1, .ref (ad 3)), (0, .ref h_T)]) hx hb dX3_readCommand_96 hl (k := 0) rfl (by decide +kernel) (by decide) rfl (fun ls hl => ?_)
          refine lv_goto (tgt := 74) hx hb dX3_readCommand_99 (by decide) ?_
          refine lv_iload_n hx hb dX3_readCommand_74 rfl (lv_at hl 0 rfl) ?_
          refine lv_aload_n hx hb dX3_readCommand_75 rfl (lv_at hl 1 rfl) ?_
          refine kr_ (va_runV (As := []) (rest := [.int 1]) ⟨hx, hb, hml, hown, hts⟩ (c_J0_length_8abf5_ad23 l hl0 D ad H.size) (cwV 0 hts gX3_readCommand_J0_length_8abf5 rfl rfl rfl (by decide +kernel) ⟨Nat.le_of_ble_eq_true rfl, Nat.le_of_ble_eq_true rfl⟩) ⟨PR_.blind, vk_recv (fxst_ hF) (i := 3) (by decide) hS, PR_.pre hF hK (hP.sub [] rfl) hS hA [] rfl⟩ rfl rfl hl.1 rfl (lv_room (Nat.le_of_ble_eq_true rfl)) dX3_readCommand_76 ⟨(Nat.le_of_ble_eq_true rfl), (Nat.le_of_ble_eq_true rfl)⟩) hP hS hA (fun H locs hP hS => ?_)
          refine W.eq (g2 := F0 m 79 ls [.int 3, .int 1]) rfl ?_
          refine lv_icmp_ge (tgt := 102) hx hb dX3_readCommand_79 (by decide) (fun c9 => absurd c9 (by decide +kernel)) (fun _ => ?_)
          refine lv_aload_n hx hb dX3_readCommand_82 rfl (lv_at hl 3 rfl) ?_
          refine lv_aload_n hx hb dX3_readCommand_83 rfl (lv_at hl 1 rfl) ?_
          refine lv_iload_n hx hb dX3_readCommand_84 rfl (lv_at hl 0 rfl) ?_
          refine kr_ (va_runV (As := [.int 1]) (rest := [.ref h_T]) ⟨hx, hb, hml, hown, hts⟩ (c_J0_charAt_5068e_1_ad23 l hl0 D ad H.size) (cwV 1 hts gX3_readCommand_J0_charAt_5068e rfl rfl rfl (by decide +kernel) ⟨Nat.le_of_ble_eq_true rfl, Nat.le_of_ble_eq_true rfl⟩) ⟨PR_.blind, vk_recv (fxst_ hF) (i := 3) (by decide) hS, PR_.pre hF hK (hP.sub [] rfl) hS hA [] rfl⟩ rfl rfl hl.1 rfl (lv_room (Nat.le_of_ble_eq_true rfl)) dX3_readCommand_85 ⟨(Nat.le_of_ble_eq_true rfl), (Nat.le_of_ble_eq_true rfl)⟩) hP hS hA (fun H locs hP hS => ?_)
          refine W.eq (g2 := F0 m 88 ls [.int 61, .ref h_T]) rfl ?_
          obtain ⟨y9, hy9⟩ : ∃ y9, (F_X3_readPart_61 sg ln y88_2) = y9 := ⟨_, rfl⟩
          have hcon := (c_X3_readPart_61 l hl0 D ad H.size h_sg h_T k_sg (.ref (ad 3)) (.ref h_nu) sg ln y88_2 (by have y0 := f_nlt c_1; have y1 := f_nle c_2; have y2 := f_neq c_45; have z0 := hy0; have z1 := hy1; have z2 := hy2; have z3 := hy3; have z4 := hen_44; have e011 : (1 : Int32).toInt = 1 := (by decide +kernel); have rw1 := addI (a := pl) (b := 1) (by omega) (by omega); have e_0 : (0 : Int32).toInt = 0 := (by decide +kernel); omega) (by have y0 := f_nlt c_1; have y1 := f_nle c_2; have y2 := f_neq c_45; have z0 := hy0; have z1 := hy1; have z2 := hy2; have z3 := hy3; have z4 := hen_44; have e011 : (1 : Int32).toInt = 1 := (by decide +kernel); have rw1 := addI (a := pl) (b := 1) (by omega) (by omega); have e_0 : (0 : Int32).toInt = 0 := (by decide +kernel); omega) (by have y0 := f_nlt c_1; have y1 := f_nle c_2; have y2 := f_neq c_45; have z0 := hy0; have z1 := hy1; have z2 := hy2; have z3 := hy3; have z4 := hen_44; have e011 : (1 : Int32).toInt = 1 := (by decide +kernel); have rw1 := addI (a := pl) (b := 1) (by omega) (by omega); have e_0 : (0 : Int32).toInt = 0 := (by decide +kernel); omega) (by have y0 := f_nlt c_1; have y1 := f_nle c_2; have y2 := f_neq c_45; have z0 := hy0; have z1 := hy1; have z2 := hy2; have z3 := hy3; have z4 := hen_44; have e011 : (1 : Int32).toInt = 1 := (by decide +kernel); have rw1 := addI (a := pl) (b := 1) (by omega) (by omega); have e_0 : (0 : Int32).toInt = 0 := (by decide +kernel); omega))
          rw [hy9] at hcon
          refine kc_ (wc := [(h_sg, .inl (k_sg, 60, .inl sg)), (h_T, .inr (6, [.ref h_sg, .int ln, .int y88_2, .ref (ad 3), .ref h_nu]))]) (wr := [(h_nu, .inl (k_nu, 3, .inl y88_1))]) (va_runV (As := [.int 61]) (rest := []) ⟨hx, hb, hml, hown, hts⟩ hcon (cwV 1 hts gX3_readCommand_X3_readPart rfl rfl rfl (by decide +kernel) ⟨Nat.le_of_ble_eq_true rfl, Nat.le_of_ble_eq_true rfl⟩) ⟨PC_.blind, va_recv hK hP (ci := 6) (q0 := 2) rfl rfl, PC_.pre hF hK hP hD hS hA [0, 2] [0] rfl (by decide) rfl⟩ rfl rfl hl.1 rfl (lv_room (Nat.le_of_ble_eq_true rfl)) dX3_readCommand_88 ⟨(Nat.le_of_ble_eq_true rfl), (Nat.le_of_ble_eq_true rfl)⟩) hK hP hD hS hA [0, 2] [1] [1] rfl rfl (by decide) (by decide) rfl (fun qa_48 ka_48 ia H locs hpo hP hD hK hS => ?_)
          subst hy9
          have hen_48 : y88_2.toInt ≤ ((F_X3_readPart_61 sg ln y88_2).2).toInt ∧ ((F_X3_readPart_61 sg ln y88_2).2).toInt ≤ y88_2.toInt + 1 ∧ (((F_X3_readPart_61 sg ln y88_2).2).toInt ≤ 60 ∨ ((F_X3_readPart_61 sg ln y88_2).2).toInt = y88_2.toInt) := hpo
          have hP : va_P D vwCl [(h_nu, .inl (k_nu, 3, .inl y88_1)), (h_sg, .inl (k_sg, 60, .inl sg)), (h_T, .inr (6, [.ref h_sg, .int ln, .int (F_X3_readPart_61 sg ln y88_2).2, .ref (ad 3), .ref h_nu]))] H := hP
          have hD : va_D A [(h_nu, .inl (k_nu, 3, .inl y88_1)), (h_sg, .inl (k_sg, 60, .inl sg)), (h_T, .inr (6, [.ref h_sg, .int ln, .int (F_X3_readPart_61 sg ln y88_2).2, .ref (ad 3), .ref h_nu]))] := hD
          have hK : va_K D vwCl [(k_nu, .int), (k_sg, .char)] s := hK
          refine W.eq (g2 := F0 m 91 ls [.int (F_X3_readPart_61 sg ln y88_2).1]) rfl ?_
          refine lv_if_ne (tgt := 96) hx hb dX3_readCommand_91 (by decide) (fun c_49 => ?_) (fun c_49 => ?_)
          · rw [if_neg c_49] at hM
            refine lv_iinc (v := 2) (lv' := [(3, .int 2), (2, .ref (ad 23)), (1, .ref (ad 3)), (0, .ref h_T)]) hx hb dX3_readCommand_96 hl (k := 0) rfl (by decide +kernel) (by decide) rfl (fun ls hl => ?_)
            refine lv_goto (tgt := 74) hx hb dX3_readCommand_99 (by decide) ?_
            refine lv_iload_n hx hb dX3_readCommand_74 rfl (lv_at hl 0 rfl) ?_
            refine lv_aload_n hx hb dX3_readCommand_75 rfl (lv_at hl 1 rfl) ?_
            refine kr_ (va_runV (As := []) (rest := [.int 2]) ⟨hx, hb, hml, hown, hts⟩ (c_J0_length_8abf5_ad23 l hl0 D ad H.size) (cwV 0 hts gX3_readCommand_J0_length_8abf5 rfl rfl rfl (by decide +kernel) ⟨Nat.le_of_ble_eq_true rfl, Nat.le_of_ble_eq_true rfl⟩) ⟨PR_.blind, vk_recv (fxst_ hF) (i := 3) (by decide) hS, PR_.pre hF hK (hP.sub [] rfl) hS hA [] rfl⟩ rfl rfl hl.1 rfl (lv_room (Nat.le_of_ble_eq_true rfl)) dX3_readCommand_76 ⟨(Nat.le_of_ble_eq_true rfl), (Nat.le_of_ble_eq_true rfl)⟩) hP hS hA (fun H locs hP hS => ?_)
            refine W.eq (g2 := F0 m 79 ls [.int 3, .int 2]) rfl ?_
            refine lv_icmp_ge (tgt := 102) hx hb dX3_readCommand_79 (by decide) (fun c9 => absurd c9 (by decide +kernel)) (fun _ => ?_)
            refine lv_aload_n hx hb dX3_readCommand_82 rfl (lv_at hl 3 rfl) ?_
            refine lv_aload_n hx hb dX3_readCommand_83 rfl (lv_at hl 1 rfl) ?_
            refine lv_iload_n hx hb dX3_readCommand_84 rfl (lv_at hl 0 rfl) ?_
            refine kr_ (va_runV (As := [.int 2]) (rest := [.ref h_T]) ⟨hx, hb, hml, hown, hts⟩ (c_J0_charAt_5068e_2_ad23 l hl0 D ad H.size) (cwV 1 hts gX3_readCommand_J0_charAt_5068e rfl rfl rfl (by decide +kernel) ⟨Nat.le_of_ble_eq_true rfl, Nat.le_of_ble_eq_true rfl⟩) ⟨PR_.blind, vk_recv (fxst_ hF) (i := 3) (by decide) hS, PR_.pre hF hK (hP.sub [] rfl) hS hA [] rfl⟩ rfl rfl hl.1 rfl (lv_room (Nat.le_of_ble_eq_true rfl)) dX3_readCommand_85 ⟨(Nat.le_of_ble_eq_true rfl), (Nat.le_of_ble_eq_true rfl)⟩) hP hS hA (fun H locs hP hS => ?_)
            refine W.eq (g2 := F0 m 88 ls [.int 49, .ref h_T]) rfl ?_
            have hcon := (c_X3_readPart_49 l hl0 D ad H.size h_sg h_nu h_T k_sg k_nu (.ref (ad 3)) sg y88_1 ln ((F_X3_readPart_61 sg ln y88_2).2) (by have y0 := f_nlt c_1; have y1 := f_nle c_2; have y2 := f_neq c_45; have y3 := f_neq c_49; have z0 := hy0; have z1 := hy1; have z2 := hy2; have z3 := hy3; have z4 := hen_44; have z5 := hen_48; have e011 : (1 : Int32).toInt = 1 := (by decide +kernel); have rw1 := addI (a := pl) (b := 1) (by omega) (by omega); have e_0 : (0 : Int32).toInt = 0 := (by decide +kernel); omega) (by have y0 := f_nlt c_1; have y1 := f_nle c_2; have y2 := f_neq c_45; have y3 := f_neq c_49; have z0 := hy0; have z1 := hy1; have z2 := hy2; have z3 := hy3; have z4 := hen_44; have z5 := hen_48; have e011 : (1 : Int32).toInt = 1 := (by decide +kernel); have rw1 := addI (a := pl) (b := 1) (by omega) (by omega); have e_0 : (0 : Int32).toInt = 0 := (by decide +kernel); omega) (by have y0 := f_nlt c_1; have y1 := f_nle c_2; have y2 := f_neq c_45; have y3 := f_neq c_49; have z0 := hy0; have z1 := hy1; have z2 := hy2; have z3 := hy3; have z4 := hen_44; have z5 := hen_48; have e011 : (1 : Int32).toInt = 1 := (by decide +kernel); have rw1 := addI (a := pl) (b := 1) (by omega) (by omega); have e_0 : (0 : Int32).toInt = 0 := (by decide +kernel); have b225 := Int32.toInt_lt ((F_X3_readPart_61 sg ln y88_2).2); have d225 := Int32.le_toInt ((F_X3_readPart_61 sg ln y88_2).2); omega) (by have y0 := f_nlt c_1; have y1 := f_nle c_2; have y2 := f_neq c_45; have y3 := f_neq c_49; have z0 := hy0; have z1 := hy1; have z2 := hy2; have z3 := hy3; have z4 := hen_44; have z5 := hen_48; have e011 : (1 : Int32).toInt = 1 := (by decide +kernel); have rw1 := addI (a := pl) (b := 1) (by omega) (by omega); have e_0 : (0 : Int32).toInt = 0 := (by decide +kernel); have b226 := Int32.toInt_lt ((F_X3_readPart_61 sg ln y88_2).2); have d226 := Int32.le_toInt ((F_X3_readPart_61 sg ln y88_2).2); omega))
            generalize hy_52 : (F_X3_readPart_49 sg ln ((F_X3_readPart_61 sg ln y88_2).2) y88_1) = y9 at hcon hM
            obtain ⟨y88b_0, y88b_1, y88b_2⟩ := y9
            refine kc_ (wc := [(h_sg, .inl (k_sg, 60, .inl sg)), (h_nu, .inl (k_nu, 3, .inl y88_1)), (h_T, .inr (6, [.ref h_sg, .int ln, .int (F_X3_readPart_61 sg ln y88_2).2, .ref (ad 3), .ref h_nu]))]) (wr := []) (va_runV (As := [.int 49]) (rest := []) ⟨hx, hb, hml, hown, hts⟩ hcon (cwV 1 hts gX3_readCommand_X3_readPart rfl rfl rfl (by decide +kernel) ⟨Nat.le_of_ble_eq_true rfl, Nat.le_of_ble_eq_true rfl⟩) ⟨PC_.blind, va_recv hK hP (ci := 6) (q0 := 2) rfl rfl, PC_.pre hF hK hP hD hS hA [1, 0, 2] [1, 0] rfl (by decide) rfl⟩ rfl rfl hl.1 rfl (lv_room (Nat.le_of_ble_eq_true rfl)) dX3_readCommand_88 ⟨(Nat.le_of_ble_eq_true rfl), (Nat.le_of_ble_eq_true rfl)⟩) hK hP hD hS hA [1, 0, 2] [] [] rfl rfl (by decide) (by decide) rfl (fun qa_52 ka_52 ia H locs hpo hP hD hK hS => ?_)
            have hM : F_X3_readCommand sg ln pl ch nu = (if y88b_0 = 0 then (0, y88b_1, y88b_2, 3) else (if ln ≤ y88b_2 then (1, y88b_1, y88b_2, 3) else (if (sg (ix y88b_2)) = 59 then (1, y88b_1, y88b_2, 3) else (0, y88b_1, y88b_2, 3)))) := hM
            have hen_52 : ((F_X3_readPart_61 sg ln y88_2).2).toInt ≤ y88b_2.toInt ∧ y88b_2.toInt ≤ ((F_X3_readPart_61 sg ln y88_2).2).toInt + 1 ∧ (y88b_2.toInt ≤ 60 ∨ y88b_2.toInt = ((F_X3_readPart_61 sg ln y88_2).2).toInt) := hpo
            have hP : va_P D vwCl [(h_sg, .inl (k_sg, 60, .inl sg)), (h_nu, .inl (k_nu, 3, .inl y88b_1)), (h_T, .inr (6, [.ref h_sg, .int ln, .int y88b_2, .ref (ad 3), .ref h_nu]))] H := hP
            have hD : va_D A [(h_sg, .inl (k_sg, 60, .inl sg)), (h_nu, .inl (k_nu, 3, .inl y88b_1)), (h_T, .inr (6, [.ref h_sg, .int ln, .int y88b_2, .ref (ad 3), .ref h_nu]))] := hD
            have hK : va_K D vwCl [(k_sg, .char), (k_nu, .int)] s := hK
            refine W.eq (g2 := F0 m 91 ls [.int y88b_0]) rfl ?_
            refine lv_if_ne (tgt := 96) hx hb dX3_readCommand_91 (by decide) (fun c_53 => ?_) (fun c_53 => ?_)
            · rw [if_neg c_53] at hM
              refine lv_iinc (v := 3) (lv' := [(3, .int 3), (2, .ref (ad 23)), (1, .ref (ad 3)), (0, .ref h_T)]) hx hb dX3_readCommand_96 hl (k := 0) rfl (by decide +kernel) (by decide) rfl (fun ls hl => ?_)
              refine lv_goto (tgt := 74) hx hb dX3_readCommand_99 (by decide) ?_
              refine lv_iload_n hx hb dX3_readCommand_74 rfl (lv_at hl 0 rfl) ?_
              refine lv_aload_n hx hb dX3_readCommand_75 rfl (lv_at hl 1 rfl) ?_
              refine kr_ (va_runV (As := []) (rest := [.int 3]) ⟨hx, hb, hml, hown, hts⟩ (c_J0_length_8abf5_ad23 l hl0 D ad H.size) (cwV 0 hts gX3_readCommand_J0_length_8abf5 rfl rfl rfl (by decide +kernel) ⟨Nat.le_of_ble_eq_true rfl, Nat.le_of_ble_eq_true rfl⟩) ⟨PR_.blind, vk_recv (fxst_ hF) (i := 3) (by decide) hS, PR_.pre hF hK (hP.sub [] rfl) hS hA [] rfl⟩ rfl rfl hl.1 rfl (lv_room (Nat.le_of_ble_eq_true rfl)) dX3_readCommand_76 ⟨(Nat.le_of_ble_eq_true rfl), (Nat.le_of_ble_eq_true rfl)⟩) hP hS hA (fun H locs hP hS => ?_)
              refine W.eq (g2 := F0 m 79 ls [.int 3, .int 3]) rfl ?_
              refine lv_icmp_ge (tgt := 102) hx hb dX3_readCommand_79 (by decide) (fun _ => ?_) (fun c9 => absurd (by decide +kernel) c9)
              refine lv_aload_n hx hb dX3_readCommand_102 rfl (lv_at hl 3 rfl) ?_
              refine va_get (D := D) (ci := 6) (v := .int y88b_2) (own := RX3) (C := RX3) (T := TX3) (N := 5) hx hb hts hi_X3 hown hK hP 2 rfl rfl 2 (by decide) (hts (.fieldLink RX3 19 "CanalMaps$CommandText" "place" "I") (List.mem_of_getElem? (i := 1) (by decide +kernel))) (fun _ h9 => h9) rfl dX3_readCommand_103 ?_
              refine lv_aload_n hx hb dX3_readCommand_106 rfl (lv_at hl 3 rfl) ?_
              refine va_get (D := D) (ci := 6) (v := .int ln) (own := RX3) (C := RX3) (T := TX3) (N := 5) hx hb hts hi_X3 hown hK hP 2 rfl rfl 1 (by decide) (hts (.fieldLink RX3 15 "CanalMaps$CommandText" "length" "I") (List.mem_of_getElem? (i := 2) (by decide +kernel))) (fun _ h9 => h9) rfl dX3_readCommand_107 ?_
              refine lv_icmp_ge (tgt := 127) hx hb dX3_readCommand_110 (by decide) (fun c_55 => ?_) (fun c_55 => ?_)
              · rw [if_pos c_55] at hM
                refine lv_iconst (v := 1) hx hb dX3_readCommand_127 (by decide) ?_
                refine lv_goto (tgt := 132) hx hb dX3_readCommand_128 (by decide) ?_
                refine W.widen (k := 0) (n := 0) (Nat.le_of_ble_eq_true rfl) (Nat.le_of_ble_eq_true rfl) ?_
                exact W.zret (v := 1) hx hb hr rfl (QG_.mk (fun _ => 0) (fun _ => 0) (fun _ => 0) [0, 1, 2] [0, 1] hP hD hK hS (by rw [hM]) (by rw [hM]; exact ⟨(show pl.toInt ≤ y88b_2.toInt from (by have y0 := f_nlt c_1; have y1 := f_nle c_2; have y2 := f_neq c_45; have y3 := f_neq c_49; have y4 := f_neq c_53; have y5 := f_le c_55; have z0 := hy0; have z1 := hy1; have z2 := hy2; have z3 := hy3; have z4 := hen_44; have z5 := hen_48; have z6 := hen_52; have e011 : (1 : Int32).toInt = 1 := (by decide +kernel); have rw1 := addI (a := pl) (b := 1) (by omega) (by omega); have e_0 : (0 : Int32).toInt = 0 := (by decide +kernel); have b228 := Int32.toInt_lt (y88b_2); have d228 := Int32.le_toInt (y88b_2); omega)), (show (y88b_2.toInt ≤ 60 ∨ y88b_2.toInt = pl.toInt) from (by have y0 := f_nlt c_1; have y1 := f_nle c_2; have y2 := f_neq c_45; have y3 := f_neq c_49; have y4 := f_neq c_53; have y5 := f_le c_55; have z0 := hy0; have z1 := hy1; have z2 := hy2; have z3 := hy3; have z4 := hen_44; have z5 := hen_48; have z6 := hen_52; have e011 : (1 : Int32).toInt = 1 := (by decide +kernel); have rw1 := addI (a := pl) (b := 1) (by omega) (by omega); have e_0 : (0 : Int32).toInt = 0 := (by decide +kernel); have b229 := Int32.toInt_lt (y88b_2); have d229 := Int32.le_toInt (y88b_2); have b230 := Int32.toInt_lt (y88b_2); have d230 := Int32.le_toInt (y88b_2); omega)), (show (3 < 6 ∨ 3 = ch) from (by have y0 := f_nlt c_1; have y1 := f_nle c_2; have y2 := f_neq c_45; have y3 := f_neq c_49; have y4 := f_neq c_53; have y5 := f_le c_55; have z0 := hy0; have z1 := hy1; have z2 := hy2; have z3 := hy3; have z4 := hen_44; have z5 := hen_48; have z6 := hen_52; have e011 : (1 : Int32).toInt = 1 := (by decide +kernel); have rw1 := addI (a := pl) (b := 1) (by omega) (by omega); have e_0 : (0 : Int32).toInt = 0 := (by decide +kernel); omega))⟩) (by first | (rw [hM]; rfl) | rfl) (by decide) rfl) hS.2.2 dX3_readCommand_132
              · rw [if_neg c_55] at hM
                refine lv_aload_n hx hb dX3_readCommand_113 rfl (lv_at hl 3 rfl) ?_
                refine va_get (D := D) (ci := 6) (v := .ref h_sg) (own := RX3) (C := RX3) (T := TX3) (N := 5) hx hb hts hi_X3 hown hK hP 2 rfl rfl 0 (by decide) (hts (.fieldLink RX3 9 "CanalMaps$CommandText" "signs" "[C") (List.mem_of_getElem? (i := 3) (by decide +kernel))) (fun _ h9 => h9) rfl dX3_readCommand_114 ?_
                refine lv_aload_n hx hb dX3_readCommand_117 rfl (lv_at hl 3 rfl) ?_
                refine va_get (D := D) (ci := 6) (v := .int y88b_2) (own := RX3) (C := RX3) (T := TX3) (N := 5) hx hb hts hi_X3 hown hK hP 2 rfl rfl 2 (by decide) (hts (.fieldLink RX3 19 "CanalMaps$CommandText" "place" "I") (List.mem_of_getElem? (i := 1) (by decide +kernel))) (fun _ h9 => h9) rfl dX3_readCommand_118 ?_
                refine va_cald hx hb hK hP 0 0 rfl rfl (vinI (by have y0 := f_nlt c_1; have y1 := f_nle c_2; have y2 := f_neq c_45; have y3 := f_neq c_49; have y4 := f_neq c_53; have y5 := f_nle c_55; have z0 := hy0; have z1 := hy1; have z2 := hy2; have z3 := hy3; have z4 := hen_44; have z5 := hen_48; have z6 := hen_52; have e011 : (1 : Int32).toInt = 1 := (by decide +kernel); have rw1 := addI (a := pl) (b := 1) (by omega) (by omega); have e_0 : (0 : Int32).toInt = 0 := (by decide +kernel); have b231 := Int32.toInt_lt (y88b_2); have d231 := Int32.le_toInt (y88b_2); omega) (by have y0 := f_nlt c_1; have y1 := f_nle c_2; have y2 := f_neq c_45; have y3 := f_neq c_49; have y4 := f_neq c_53; have y5 := f_nle c_55; have z0 := hy0; have z1 := hy1; have z2 := hy2; have z3 := hy3; have z4 := hen_44; have z5 := hen_48; have z6 := hen_52; have e011 : (1 : Int32).toInt = 1 := (by decide +kernel); have rw1 := addI (a := pl) (b := 1) (by omega) (by omega); have e_0 : (0 : Int32).toInt = 0 := (by decide +kernel); have b231 := Int32.toInt_lt (y88b_2); have d231 := Int32.le_toInt (y88b_2); omega)) dX3_readCommand_121 ?_
                refine kt_ (v := (sg (ix y88b_2))) rfl ?_
                refine lv_bipush (v := 59) hx hb dX3_readCommand_122 (by decide) ?_
                refine lv_icmp_ne (tgt := 131) hx hb dX3_readCommand_124 (by decide) (fun c_56 => ?_) (fun c_56 => ?_)
                · rw [if_neg c_56] at hM
                  refine lv_iconst (v := 0) hx hb dX3_readCommand_131 (by decide) ?_
                  refine W.widen (k := 0) (n := 0) (Nat.le_of_ble_eq_true rfl) (Nat.le_of_ble_eq_true rfl) ?_
                  exact W.zret (v := 0) hx hb hr rfl (QG_.mk (fun _ => 0) (fun _ => 0) (fun _ => 0) [0, 1, 2] [0, 1] hP hD hK hS (by rw [hM]) (by rw [hM]; exact ⟨(show pl.toInt ≤ y88b_2.toInt from (by have y0 := f_nlt c_1; have y1 := f_nle c_2; have y2 := f_neq c_45; have y3 := f_neq c_49; have y4 := f_neq c_53; have y5 := f_nle c_55; have y6 := f_neq c_56; have z0 := hy0; have z1 := hy1; have z2 := hy2; have z3 := hy3; have z4 := hen_44; have z5 := hen_48; have z6 := hen_52; have e011 : (1 : Int32).toInt = 1 := (by decide +kernel); have rw1 := addI (a := pl) (b := 1) (by omega) (by omega); have e_0 : (0 : Int32).toInt = 0 := (by decide +kernel); have e_59 : (59 : Int32).toInt = 59 := (by decide +kernel); have b232 := Int32.toInt_lt (y88b_2); have d232 := Int32.le_toInt (y88b_2); have x0 := ix_toNat y88b_2; omega)), (show (y88b_2.toInt ≤ 60 ∨ y88b_2.toInt = pl.toInt) from (by have y0 := f_nlt c_1; have y1 := f_nle c_2; have y2 := f_neq c_45; have y3 := f_neq c_49; have y4 := f_neq c_53; have y5 := f_nle c_55; have y6 := f_neq c_56; have z0 := hy0; have z1 := hy1; have z2 := hy2; have z3 := hy3; have z4 := hen_44; have z5 := hen_48; have z6 := hen_52; have e011 : (1 : Int32).toInt = 1 := (by decide +kernel); have rw1 := addI (a := pl) (b := 1) (by omega) (by omega); have e_0 : (0 : Int32).toInt = 0 := (by decide +kernel); have e_59 : (59 : Int32).toInt = 59 := (by decide +kernel); have b233 := Int32.toInt_lt (y88b_2); have d233 := Int32.le_toInt (y88b_2); have b234 := Int32.toInt_lt (y88b_2); have d234 := Int32.le_toInt (y88b_2); have x0 := ix_toNat y88b_2; omega)), (show (3 < 6 ∨ 3 = ch) from (by have y0 := f_nlt c_1; have y1 := f_nle c_2; have y2 := f_neq c_45; have y3 := f_neq c_49; have y4 := f_neq c_53; have y5 := f_nle c_55; have y6 := f_neq c_56; have z0 := hy0; have z1 := hy1; have z2 := hy2; have z3 := hy3; have z4 := hen_44; have z5 := hen_48; have z6 := hen_52; have e011 : (1 : Int32).toInt = 1 := (by decide +kernel); have rw1 := addI (a := pl) (b := 1) (by omega) (by omega); have e_0 : (0 : Int32).toInt = 0 := (by decide +kernel); have e_59 : (59 : Int32).toInt = 59 := (by decide +kernel); have x0 := ix_toNat y88b_2; omega))⟩) (by first | (rw [hM]; rfl) | rfl) (by decide) rfl) hS.2.2 dX3_readCommand_132
                · rw [if_pos c_56] at hM
                  refine lv_iconst (v := 1) hx hb dX3_readCommand_127 (by decide) ?_
                  refine lv_goto (tgt := 132) hx hb dX3_readCommand_128 (by decide) ?_
                  refine W.widen (k := 0) (n := 0) (Nat.le_of_ble_eq_true rfl) (Nat.le_of_ble_eq_true rfl) ?_
                  exact W.zret (v := 1) hx hb hr rfl (QG_.mk (fun _ => 0) (fun _ => 0) (fun _ => 0) [0, 1, 2] [0, 1] hP hD hK hS (by rw [hM]) (by rw [hM]; exact ⟨(show pl.toInt ≤ y88b_2.toInt from (by have y0 := f_nlt c_1; have y1 := f_nle c_2; have y2 := f_neq c_45; have y3 := f_neq c_49; have y4 := f_neq c_53; have y5 := f_nle c_55; have y6 := f_eq c_56; have z0 := hy0; have z1 := hy1; have z2 := hy2; have z3 := hy3; have z4 := hen_44; have z5 := hen_48; have z6 := hen_52; have e011 : (1 : Int32).toInt = 1 := (by decide +kernel); have rw1 := addI (a := pl) (b := 1) (by omega) (by omega); have e_0 : (0 : Int32).toInt = 0 := (by decide +kernel); have e_59 : (59 : Int32).toInt = 59 := (by decide +kernel); have b235 := Int32.toInt_lt (y88b_2); have d235 := Int32.le_toInt (y88b_2); have x0 := ix_toNat y88b_2; omega)), (show (y88b_2.toInt ≤ 60 ∨ y88b_2.toInt = pl.toInt) from (by have y0 := f_nlt c_1; have y1 := f_nle c_2; have y2 := f_neq c_45; have y3 := f_neq c_49; have y4 := f_neq c_53; have y5 := f_nle c_55; have y6 := f_eq c_56; have z0 := hy0; have z1 := hy1; have z2 := hy2; have z3 := hy3; have z4 := hen_44; have z5 := hen_48; have z6 := hen_52; have e011 : (1 : Int32).toInt = 1 := (by decide +kernel); have rw1 := addI (a := pl) (b := 1) (by omega) (by omega); have e_0 : (0 : Int32).toInt = 0 := (by decide +kernel); have e_59 : (59 : Int32).toInt = 59 := (by decide +kernel); have b236 := Int32.toInt_lt (y88b_2); have d236 := Int32.le_toInt (y88b_2); have b237 := Int32.toInt_lt (y88b_2); have d237 := Int32.le_toInt (y88b_2); have x0 := ix_toNat y88b_2; omega)), (show (3 < 6 ∨ 3 = ch) from (by have y0 := f_nlt c_1; have y1 := f_nle c_2; have y2 := f_neq c_45; have y3 := f_neq c_49; have y4 := f_neq c_53; have y5 := f_nle c_55; have y6 := f_eq c_56; have z0 := hy0; have z1 := hy1; have z2 := hy2; have z3 := hy3; have z4 := hen_44; have z5 := hen_48; have z6 := hen_52; have e011 : (1 : Int32).toInt = 1 := (by decide +kernel); have rw1 := addI (a := pl) (b := 1) (by omega) (by omega); have e_0 : (0 : Int32).toInt = 0 := (by decide +kernel); have e_59 : (59 : Int32).toInt = 59 := (by decide +kernel); have x0 := ix_toNat y88b_2; omega))⟩) (by first | (rw [hM]; rfl) | rfl) (by decide) rfl) hS.2.2 dX3_readCommand_132
            · rw [if_pos c_53] at hM
              refine lv_iconst (v := 0) hx hb dX3_readCommand_94 (by decide) ?_
              refine W.widen (k := 0) (n := 0) (Nat.le_of_ble_eq_true rfl) (Nat.le_of_ble_eq_true rfl) ?_
              exact W.zret (v := 0) hx hb hr rfl (QG_.mk (fun _ => 0) (fun _ => 0) (fun _ => 0) [0, 1, 2] [0, 1] hP hD hK hS (by rw [hM]) (by rw [hM]; exact ⟨(show pl.toInt ≤ y88b_2.toInt from (by have y0 := f_nlt c_1; have y1 := f_nle c_2; have y2 := f_neq c_45; have y3 := f_neq c_49; have y4 := f_eq c_53; have z0 := hy0; have z1 := hy1; have z2 := hy2; have z3 := hy3; have z4 := hen_44; have z5 := hen_48; have z6 := hen_52; have e011 : (1 : Int32).toInt = 1 := (by decide +kernel); have rw1 := addI (a := pl) (b := 1) (by omega) (by omega); have e_0 : (0 : Int32).toInt = 0 := (by decide +kernel); have b238 := Int32.toInt_lt (y88b_2); have d238 := Int32.le_toInt (y88b_2); omega)), (show (y88b_2.toInt ≤ 60 ∨ y88b_2.toInt = pl.toInt) from (by have y0 := f_nlt c_1; have y1 := f_nle c_2; have y2 := f_neq c_45; have y3 := f_neq c_49; have y4 := f_eq c_53; have z0 := hy0; have z1 := hy1; have z2 := hy2; have z3 := hy3; have z4 := hen_44; have z5 := hen_48; have z6 := hen_52; have e011 : (1 : Int32).toInt = 1 := (by decide +kernel); have rw1 := addI (a := pl) (b := 1) (by omega) (by omega); have e_0 : (0 : Int32).toInt = 0 := (by decide +kernel); have b239 := Int32.toInt_lt (y88b_2); have d239 := Int32.le_toInt (y88b_2); have b240 := Int32.toInt_lt (y88b_2); have d240 := Int32.le_toInt (y88b_2); omega)), (show (3 < 6 ∨ 3 = ch) from (by have y0 := f_nlt c_1; have y1 := f_nle c_2; have y2 := f_neq c_45; have y3 := f_neq c_49; have y4 := f_eq c_53; have z0 := hy0; have z1 := hy1; have z2 := hy2; have z3 := hy3; have z4 := hen_44; have z5 := hen_48; have z6 := hen_52; have e011 : (1 : Int32).toInt = 1 := (by decide +kernel); have rw1 := addI (a := pl) (b := 1) (by omega) (by omega); have e_0 : (0 : Int32).toInt = 0 := (by decide +kernel); omega))⟩) (by first | (rw [hM]; rfl) | rfl) (by decide) rfl) hS.2.2 dX3_readCommand_95
          · rw [if_pos c_49] at hM
            refine lv_iconst (v := 0) hx hb dX3_readCommand_94 (by decide) ?_
            refine W.widen (k := 0) (n := 0) (Nat.le_of_ble_eq_true rfl) (Nat.le_of_ble_eq_true rfl) ?_
            exact W.zret (v := 0) hx hb hr rfl (QG_.mk (fun _ => 0) (fun _ => 0) (fun _ => 0) [1, 0, 2] [1, 0] hP hD hK hS (by rw [hM]) (by rw [hM]; exact ⟨(show pl.toInt ≤ ((F_X3_readPart_61 sg ln y88_2).2).toInt from (by have y0 := f_nlt c_1; have y1 := f_nle c_2; have y2 := f_neq c_45; have y3 := f_eq c_49; have z0 := hy0; have z1 := hy1; have z2 := hy2; have z3 := hy3; have z4 := hen_44; have z5 := hen_48; have e011 : (1 : Int32).toInt = 1 := (by decide +kernel); have rw1 := addI (a := pl) (b := 1) (by omega) (by omega); have e_0 : (0 : Int32).toInt = 0 := (by decide +kernel); have b241 := Int32.toInt_lt ((F_X3_readPart_61 sg ln y88_2).2); have d241 := Int32.le_toInt ((F_X3_readPart_61 sg ln y88_2).2); omega)), (show (((F_X3_readPart_61 sg ln y88_2).2).toInt ≤ 60 ∨ ((F_X3_readPart_61 sg ln y88_2).2).toInt = pl.toInt) from (by have y0 := f_nlt c_1; have y1 := f_nle c_2; have y2 := f_neq c_45; have y3 := f_eq c_49; have z0 := hy0; have z1 := hy1; have z2 := hy2; have z3 := hy3; have z4 := hen_44; have z5 := hen_48; have e011 : (1 : Int32).toInt = 1 := (by decide +kernel); have rw1 := addI (a := pl) (b := 1) (by omega) (by omega); have e_0 : (0 : Int32).toInt = 0 := (by decide +kernel); have b242 := Int32.toInt_lt ((F_X3_readPart_61 sg ln y88_2).2); have d242 := Int32.le_toInt ((F_X3_readPart_61 sg ln y88_2).2); have b243 := Int32.toInt_lt ((F_X3_readPart_61 sg ln y88_2).2); have d243 := Int32.le_toInt ((F_X3_readPart_61 sg ln y88_2).2); omega)), (show (3 < 6 ∨ 3 = ch) from (by have y0 := f_nlt c_1; have y1 := f_nle c_2; have y2 := f_neq c_45; have y3 := f_eq c_49; have z0 := hy0; have z1 := hy1; have z2 := hy2; have z3 := hy3; have z4 := hen_44; have z5 := hen_48; have e011 : (1 : Int32).toInt = 1 := (by decide +kernel); have rw1 := addI (a := pl) (b := 1) (by omega) (by omega); have e_0 : (0 : Int32).toInt = 0 := (by decide +kernel); omega))⟩) (by first | (rw [hM]; rfl) | rfl) (by decide) rfl) hS.2.2 dX3_readCommand_95
        · rw [if_pos c_45] at hM
          refine lv_iconst (v := 0) hx hb dX3_readCommand_94 (by decide) ?_
          refine W.widen (k := 0) (n := 0) (Nat.le_of_ble_eq_true rfl) (Nat.le_of_ble_eq_true rfl) ?_
          exact W.zret (v := 0) hx hb hr rfl (QG_.mk (fun _ => 0) (fun _ => 0) (fun _ => 0) [0, 1, 2] [0, 1] hP hD hK hS (by rw [hM]) (by rw [hM]; exact ⟨(show pl.toInt ≤ y88_2.toInt from (by have y0 := f_nlt c_1; have y1 := f_nle c_2; have y2 := f_eq c_45; have z0 := hy0; have z1 := hy1; have z2 := hy2; have z3 := hy3; have z4 := hen_44; have e011 : (1 : Int32).toInt = 1 := (by decide +kernel); have rw1 := addI (a := pl) (b := 1) (by omega) (by omega); have e_0 : (0 : Int32).toInt = 0 := (by decide +kernel); have b244 := Int32.toInt_lt (y88_2); have d244 := Int32.le_toInt (y88_2); omega)), (show (y88_2.toInt ≤ 60 ∨ y88_2.toInt = pl.toInt) from (by have y0 := f_nlt c_1; have y1 := f_nle c_2; have y2 := f_eq c_45; have z0 := hy0; have z1 := hy1; have z2 := hy2; have z3 := hy3; have z4 := hen_44; have e011 : (1 : Int32).toInt = 1 := (by decide +kernel); have rw1 := addI (a := pl) (b := 1) (by omega) (by omega); have e_0 : (0 : Int32).toInt = 0 := (by decide +kernel); have b245 := Int32.toInt_lt (y88_2); have d245 := Int32.le_toInt (y88_2); have b246 := Int32.toInt_lt (y88_2); have d246 := Int32.le_toInt (y88_2); omega)), (show (3 < 6 ∨ 3 = ch) from (by have y0 := f_nlt c_1; have y1 := f_nle c_2; have y2 := f_eq c_45; have z0 := hy0; have z1 := hy1; have z2 := hy2; have z3 := hy3; have z4 := hen_44; have e011 : (1 : Int32).toInt = 1 := (by decide +kernel); have rw1 := addI (a := pl) (b := 1) (by omega) (by omega); have e_0 : (0 : Int32).toInt = 0 := (by decide +kernel); omega))⟩) (by first | (rw [hM]; rfl) | rfl) (by decide) rfl) hS.2.2 dX3_readCommand_95
      · rw [c_4]
        rw [if_neg (show ¬ (F_X2_beginningWith (sg (ix pl))) = 0 from by rw [c_4]; decide)] at hM
        rw [if_neg (show ¬ (F_X2_beginningWith (sg (ix pl))) = 1 from by rw [c_4]; decide)] at hM
        rw [if_neg (show ¬ (F_X2_beginningWith (sg (ix pl))) = 2 from by rw [c_4]; decide)] at hM
        rw [if_neg (show ¬ (F_X2_beginningWith (sg (ix pl))) = 3 from by rw [c_4]; decide)] at hM
        rw [if_pos c_4] at hM
        refine W.eq (g2 := F0 m 30 ls [.ref (ad 4)]) rfl ?_
        refine lv_goto (tgt := 34) hx hb dX3_readCommand_30 (by decide) ?_
        refine lv_astore_n (lv' := [(1, .ref (ad 4)), (0, .ref h_T)]) hx hb dX3_readCommand_34 rfl hl (by decide) rfl (fun ls hl => ?_)
        refine lv_aload_n hx hb dX3_readCommand_35 rfl (lv_at hl 0 rfl) ?_
        refine lv_ifnonnull (tgt := 41) hx hb dX3_readCommand_36 (by decide) ?_
        refine lv_aload_n hx hb dX3_readCommand_41 rfl (lv_at hl 1 rfl) ?_
        refine lv_aload_n hx hb dX3_readCommand_42 rfl (lv_at hl 0 rfl) ?_
        refine va_put (D := D) (ci := 6) (v := .ref (ad 4)) (ty := tyX3 3) (own := RX3) (C := RX3) (T := TX3) (N := 5) hx hb hts hi_X3 tyX3 tyX3_ok nmX3 hown hK hP hD hS 2 rfl rfl 3 (by decide) (hts (.fieldLink RX3 28 "CanalMaps$CommandText" "change" "LCanalMaps$Change;") (List.mem_of_getElem? (i := 4) (by decide +kernel))) (fun _ h9 => h9) rfl (by decide +kernel) rfl rfl (Nat.le_of_ble_eq_true rfl) dX3_readCommand_43 (fun H locs hP hD hS => ?_)
        have hP : va_P D vwCl [(h_sg, .inl (k_sg, 60, .inl sg)), (h_nu, .inl (k_nu, 3, .inl nu)), (h_T, .inr (6, [.ref h_sg, .int ln, .int pl, .ref (ad 4), .ref h_nu]))] H := hP
        have hD : va_D A [(h_sg, .inl (k_sg, 60, .inl sg)), (h_nu, .inl (k_nu, 3, .inl nu)), (h_T, .inr (6, [.ref h_sg, .int ln, .int pl, .ref (ad 4), .ref h_nu]))] := hD
        refine lv_aload_n hx hb dX3_readCommand_46 rfl (lv_at hl 1 rfl) ?_
        refine lv_dup hx hb dX3_readCommand_47 rfl ?_
        refine va_get (D := D) (ci := 6) (v := .int pl) (own := RX3) (C := RX3) (T := TX3) (N := 5) hx hb hts hi_X3 hown hK hP 2 rfl rfl 2 (by decide) (hts (.fieldLink RX3 19 "CanalMaps$CommandText" "place" "I") (List.mem_of_getElem? (i := 1) (by decide +kernel))) (fun _ h9 => h9) rfl dX3_readCommand_48 ?_
        refine lv_iconst (v := 1) hx hb dX3_readCommand_51 (by decide) ?_
        refine lv_iadd hx hb dX3_readCommand_52 ?_
        refine va_put (D := D) (ci := 6) (v := .int (pl + 1)) (ty := .int) (own := RX3) (C := RX3) (T := TX3) (N := 5) hx hb hts hi_X3 tyX3 tyX3_ok nmX3 hown hK hP hD hS 2 rfl rfl 2 (by decide) (hts (.fieldLink RX3 19 "CanalMaps$CommandText" "place" "I") (List.mem_of_getElem? (i := 1) (by decide +kernel))) (fun _ h9 => h9) rfl (by decide +kernel) rfl rfl (Nat.le_of_ble_eq_true rfl) dX3_readCommand_53 (fun H locs hP hD hS => ?_)
        have hP : va_P D vwCl [(h_sg, .inl (k_sg, 60, .inl sg)), (h_nu, .inl (k_nu, 3, .inl nu)), (h_T, .inr (6, [.ref h_sg, .int ln, .int (pl + 1), .ref (ad 4), .ref h_nu]))] H := hP
        have hD : va_D A [(h_sg, .inl (k_sg, 60, .inl sg)), (h_nu, .inl (k_nu, 3, .inl nu)), (h_T, .inr (6, [.ref h_sg, .int ln, .int (pl + 1), .ref (ad 4), .ref h_nu]))] := hD
        refine lv_aload_n hx hb dX3_readCommand_56 rfl (lv_at hl 1 rfl) ?_
        refine va_get (D := D) (ci := 6) (v := .ref h_nu) (own := RX3) (C := RX3) (T := TX3) (N := 5) hx hb hts hi_X3 hown hK hP 2 rfl rfl 4 (by decide) (hts (.fieldLink RX3 31 "CanalMaps$CommandText" "numbers" "[I") (List.mem_of_getElem? (i := 5) (by decide +kernel))) (fun _ h9 => h9) rfl dX3_readCommand_57 ?_
        refine lv_iconst (v := 0) hx hb dX3_readCommand_60 (by decide) ?_
        obtain ⟨y9, hy9⟩ : ∃ y9, (F_J7_fill_53178 nu 3 0) = y9 := ⟨_, rfl⟩
        have hcon := (c_J7_fill_53178 l hl0 D ad H.size h_nu k_nu 3 nu 0 (by decide +kernel))
        rw [hy9] at hcon
        refine kc_ (wc := [(h_nu, .inl (k_nu, 3, .inl nu))]) (wr := [(h_sg, .inl (k_sg, 60, .inl sg)), (h_T, .inr (6, [.ref h_sg, .int ln, .int (pl + 1), .ref (ad 4), .ref h_nu]))]) (va_runS (As := [.ref h_nu, .int 0]) (rest := []) ⟨hx, hb, hml, hown, hts⟩ hcon (va_cwS 2 hts gX3_readCommand_J7_fill_53178 rfl rfl rfl (by decide +kernel) ⟨Nat.le_of_ble_eq_true rfl, Nat.le_of_ble_eq_true rfl⟩) ⟨PC_.blind, PC_.pre hF hK hP hD hS hA [1] [1] rfl (by decide) rfl⟩ rfl rfl hl.1 rfl (lv_room (Nat.le_of_ble_eq_true rfl)) dX3_readCommand_61 ⟨(Nat.le_of_ble_eq_true rfl), (Nat.le_of_ble_eq_true rfl)⟩) hK hP hD hS hA [1] [0, 2] [0] rfl rfl (by decide) (by decide) rfl (fun qa_57 ka_57 ia H locs hpo hP hD hK hS => ?_)
        subst hy9
        have hP : va_P D vwCl [(h_sg, .inl (k_sg, 60, .inl sg)), (h_T, .inr (6, [.ref h_sg, .int ln, .int (pl + 1), .ref (ad 4), .ref h_nu])), (h_nu, .inl (k_nu, 3, .inl (F_J7_fill_53178 nu 3 0)))] H := hP
        have hD : va_D A [(h_sg, .inl (k_sg, 60, .inl sg)), (h_T, .inr (6, [.ref h_sg, .int ln, .int (pl + 1), .ref (ad 4), .ref h_nu])), (h_nu, .inl (k_nu, 3, .inl (F_J7_fill_53178 nu 3 0)))] := hD
        have hK : va_K D vwCl [(k_sg, .char), (k_nu, .int)] s := hK
        refine W.eq (g2 := F0 m 64 ls []) rfl ?_
        refine lv_aload_n hx hb dX3_readCommand_64 rfl (lv_at hl 1 rfl) ?_
        refine va_get (D := D) (ci := 6) (v := .ref (ad 4)) (own := RX3) (C := RX3) (T := TX3) (N := 5) hx hb hts hi_X3 hown hK hP 1 rfl rfl 3 (by decide) (hts (.fieldLink RX3 28 "CanalMaps$CommandText" "change" "LCanalMaps$Change;") (List.mem_of_getElem? (i := 4) (by decide +kernel))) (fun _ h9 => h9) rfl dX3_readCommand_65 ?_
        refine kgetfN_ (o := "CanalMaps$Change") (n := "form") (d := "Ljava/lang/String;") (q := ad 4) (v := .ref (ad 20)) hx hb (fxfo_ hF 4 (by decide)) hS hown (fxn_ hF (RX3, 58, "CanalMaps$Change", "form", "Ljava/lang/String;")) (fun _ h9 => h9) dX3_readCommand_68 ?_
        refine lv_astore_n (lv' := [(2, .ref (ad 20)), (1, .ref (ad 4)), (0, .ref h_T)]) hx hb dX3_readCommand_71 rfl hl (by decide) rfl (fun ls hl => ?_)
        refine lv_iconst (v := 0) hx hb dX3_readCommand_72 (by decide) ?_
        refine lv_istore_n (lv' := [(3, .int 0), (2, .ref (ad 20)), (1, .ref (ad 4)), (0, .ref h_T)]) hx hb dX3_readCommand_73 rfl hl (by decide) rfl (fun ls hl => ?_)
        refine lv_iload_n hx hb dX3_readCommand_74 rfl (lv_at hl 0 rfl) ?_
        refine lv_aload_n hx hb dX3_readCommand_75 rfl (lv_at hl 1 rfl) ?_
        refine kr_ (va_runV (As := []) (rest := [.int 0]) ⟨hx, hb, hml, hown, hts⟩ (c_J0_length_8abf5_ad20 l hl0 D ad H.size) (cwV 0 hts gX3_readCommand_J0_length_8abf5 rfl rfl rfl (by decide +kernel) ⟨Nat.le_of_ble_eq_true rfl, Nat.le_of_ble_eq_true rfl⟩) ⟨PR_.blind, vk_recv (fxst_ hF) (i := 0) (by decide) hS, PR_.pre hF hK (hP.sub [] rfl) hS hA [] rfl⟩ rfl rfl hl.1 rfl (lv_room (Nat.le_of_ble_eq_true rfl)) dX3_readCommand_76 ⟨(Nat.le_of_ble_eq_true rfl), (Nat.le_of_ble_eq_true rfl)⟩) hP hS hA (fun H locs hP hS => ?_)
        refine W.eq (g2 := F0 m 79 ls [.int 0, .int 0]) rfl ?_
        refine lv_icmp_ge (tgt := 102) hx hb dX3_readCommand_79 (by decide) (fun _ => ?_) (fun c9 => absurd (by decide +kernel) c9)
        refine lv_aload_n hx hb dX3_readCommand_102 rfl (lv_at hl 3 rfl) ?_
        refine va_get (D := D) (ci := 6) (v := .int (pl + 1)) (own := RX3) (C := RX3) (T := TX3) (N := 5) hx hb hts hi_X3 hown hK hP 1 rfl rfl 2 (by decide) (hts (.fieldLink RX3 19 "CanalMaps$CommandText" "place" "I") (List.mem_of_getElem? (i := 1) (by decide +kernel))) (fun _ h9 => h9) rfl dX3_readCommand_103 ?_
        refine lv_aload_n hx hb dX3_readCommand_106 rfl (lv_at hl 3 rfl) ?_
        refine va_get (D := D) (ci := 6) (v := .int ln) (own := RX3) (C := RX3) (T := TX3) (N := 5) hx hb hts hi_X3 hown hK hP 1 rfl rfl 1 (by decide) (hts (.fieldLink RX3 15 "CanalMaps$CommandText" "length" "I") (List.mem_of_getElem? (i := 2) (by decide +kernel))) (fun _ h9 => h9) rfl dX3_readCommand_107 ?_
        refine lv_icmp_ge (tgt := 127) hx hb dX3_readCommand_110 (by decide) (fun c_59 => ?_) (fun c_59 => ?_)
        · rw [if_pos c_59] at hM
          refine lv_iconst (v := 1) hx hb dX3_readCommand_127 (by decide) ?_
          refine lv_goto (tgt := 132) hx hb dX3_readCommand_128 (by decide) ?_
          refine W.widen (k := 0) (n := 0) (Nat.le_of_ble_eq_true rfl) (Nat.le_of_ble_eq_true rfl) ?_
          exact W.zret (v := 1) hx hb hr rfl (QG_.mk (fun _ => 0) (fun _ => 0) (fun _ => 0) [0, 2, 1] [0, 1] hP hD hK hS (by rw [hM]) (by rw [hM]; exact ⟨(show pl.toInt ≤ (pl + 1).toInt from (by have y0 := f_nlt c_1; have y1 := f_nle c_2; have y2 := f_le c_59; have z0 := hy0; have z1 := hy1; have z2 := hy2; have z3 := hy3; have e011 : (1 : Int32).toInt = 1 := (by decide +kernel); have rw1 := addI (a := pl) (b := 1) (by omega) (by omega); have e_0 : (0 : Int32).toInt = 0 := (by decide +kernel); have b248 := Int32.toInt_lt (pl); have d248 := Int32.le_toInt (pl); have l249 : (1 : Int32).toInt = 1 := (by decide +kernel); have q247 := addI (a := pl) (b := 1) (by omega) (by omega); omega)), (show ((pl + 1).toInt ≤ 60 ∨ (pl + 1).toInt = pl.toInt) from (by have y0 := f_nlt c_1; have y1 := f_nle c_2; have y2 := f_le c_59; have z0 := hy0; have z1 := hy1; have z2 := hy2; have z3 := hy3; have e011 : (1 : Int32).toInt = 1 := (by decide +kernel); have rw1 := addI (a := pl) (b := 1) (by omega) (by omega); have e_0 : (0 : Int32).toInt = 0 := (by decide +kernel); have b251 := Int32.toInt_lt (pl); have d251 := Int32.le_toInt (pl); have l252 : (1 : Int32).toInt = 1 := (by decide +kernel); have q250 := addI (a := pl) (b := 1) (by omega) (by omega); have b254 := Int32.toInt_lt (pl); have d254 := Int32.le_toInt (pl); have l255 : (1 : Int32).toInt = 1 := (by decide +kernel); have q253 := addI (a := pl) (b := 1) (by omega) (by omega); omega)), (show (4 < 6 ∨ 4 = ch) from (by have y0 := f_nlt c_1; have y1 := f_nle c_2; have y2 := f_le c_59; have z0 := hy0; have z1 := hy1; have z2 := hy2; have z3 := hy3; have e011 : (1 : Int32).toInt = 1 := (by decide +kernel); have rw1 := addI (a := pl) (b := 1) (by omega) (by omega); have e_0 : (0 : Int32).toInt = 0 := (by decide +kernel); omega))⟩) (by first | (rw [hM]; rfl) | rfl) (by decide) rfl) hS.2.2 dX3_readCommand_132
        · rw [if_neg c_59] at hM
          refine lv_aload_n hx hb dX3_readCommand_113 rfl (lv_at hl 3 rfl) ?_
          refine va_get (D := D) (ci := 6) (v := .ref h_sg) (own := RX3) (C := RX3) (T := TX3) (N := 5) hx hb hts hi_X3 hown hK hP 1 rfl rfl 0 (by decide) (hts (.fieldLink RX3 9 "CanalMaps$CommandText" "signs" "[C") (List.mem_of_getElem? (i := 3) (by decide +kernel))) (fun _ h9 => h9) rfl dX3_readCommand_114 ?_
          refine lv_aload_n hx hb dX3_readCommand_117 rfl (lv_at hl 3 rfl) ?_
          refine va_get (D := D) (ci := 6) (v := .int (pl + 1)) (own := RX3) (C := RX3) (T := TX3) (N := 5) hx hb hts hi_X3 hown hK hP 1 rfl rfl 2 (by decide) (hts (.fieldLink RX3 19 "CanalMaps$CommandText" "place" "I") (List.mem_of_getElem? (i := 1) (by decide +kernel))) (fun _ h9 => h9) rfl dX3_readCommand_118 ?_
          refine va_cald hx hb hK hP 0 0 rfl rfl (vinI (by have y0 := f_nlt c_1; have y1 := f_nle c_2; have y2 := f_nle c_59; have z0 := hy0; have z1 := hy1; have z2 := hy2; have z3 := hy3; have e011 : (1 : Int32).toInt = 1 := (by decide +kernel); have rw1 := addI (a := pl) (b := 1) (by omega) (by omega); have e_0 : (0 : Int32).toInt = 0 := (by decide +kernel); have b257 := Int32.toInt_lt (pl); have d257 := Int32.le_toInt (pl); have l258 : (1 : Int32).toInt = 1 := (by decide +kernel); have q256 := addI (a := pl) (b := 1) (by omega) (by omega); omega) (by have y0 := f_nlt c_1; have y1 := f_nle c_2; have y2 := f_nle c_59; have z0 := hy0; have z1 := hy1; have z2 := hy2; have z3 := hy3; have e011 : (1 : Int32).toInt = 1 := (by decide +kernel); have rw1 := addI (a := pl) (b := 1) (by omega) (by omega); have e_0 : (0 : Int32).toInt = 0 := (by decide +kernel); have b257 := Int32.toInt_lt (pl); have d257 := Int32.le_toInt (pl); have l258 : (1 : Int32).toInt = 1 := (by decide +kernel); have q256 := addI (a := pl) (b := 1) (by omega) (by omega); omega)) dX3_readCommand_121 ?_
          refine kt_ (v := (sg (ix (pl + 1)))) rfl ?_
          refine lv_bipush (v := 59) hx hb dX3_readCommand_122 (by decide) ?_
          refine lv_icmp_ne (tgt := 131) hx hb dX3_readCommand_124 (by decide) (fun c_60 => ?_) (fun c_60 => ?_)
          · rw [if_neg c_60] at hM
            refine lv_iconst (v := 0) hx hb dX3_readCommand_131 (by decide) ?_
            refine W.widen (k := 0) (n := 0) (Nat.le_of_ble_eq_true rfl) (Nat.le_of_ble_eq_true rfl) ?_
            exact W.zret (v := 0) hx hb hr rfl (QG_.mk (fun _ => 0) (fun _ => 0) (fun _ => 0) [0, 2, 1] [0, 1] hP hD hK hS (by rw [hM]) (by rw [hM]; exact ⟨(show pl.toInt ≤ (pl + 1).toInt from (by have y0 := f_nlt c_1; have y1 := f_nle c_2; have y2 := f_nle c_59; have y3 := f_neq c_60; have z0 := hy0; have z1 := hy1; have z2 := hy2; have z3 := hy3; have e011 : (1 : Int32).toInt = 1 := (by decide +kernel); have rw1 := addI (a := pl) (b := 1) (by omega) (by omega); have e_0 : (0 : Int32).toInt = 0 := (by decide +kernel); have e_59 : (59 : Int32).toInt = 59 := (by decide +kernel); have b260 := Int32.toInt_lt (pl); have d260 := Int32.le_toInt (pl); have l261 : (1 : Int32).toInt = 1 := (by decide +kernel); have q259 := addI (a := pl) (b := 1) (by omega) (by omega); have x0 := ix_toNat (pl + 1); omega)), (show ((pl + 1).toInt ≤ 60 ∨ (pl + 1).toInt = pl.toInt) from (by have y0 := f_nlt c_1; have y1 := f_nle c_2; have y2 := f_nle c_59; have y3 := f_neq c_60; have z0 := hy0; have z1 := hy1; have z2 := hy2; have z3 := hy3; have e011 : (1 : Int32).toInt = 1 := (by decide +kernel); have rw1 := addI (a := pl) (b := 1) (by omega) (by omega); have e_0 : (0 : Int32).toInt = 0 := (by decide +kernel); have e_59 : (59 : Int32).toInt = 59 := (by decide +kernel); have b263 := Int32.toInt_lt (pl); have d263 := Int32.le_toInt (pl); have l264 : (1 : Int32).toInt = 1 := (by decide +kernel); have q262 := addI (a := pl) (b := 1) (by omega) (by omega); have b266 := Int32.toInt_lt (pl); have d266 := Int32.le_toInt (pl); have l267 : (1 : Int32).toInt = 1 := (by decide +kernel); have q265 := addI (a := pl) (b := 1) (by omega) (by omega); have x0 := ix_toNat (pl + 1); omega)), (show (4 < 6 ∨ 4 = ch) from (by have y0 := f_nlt c_1; have y1 := f_nle c_2; have y2 := f_nle c_59; have y3 := f_neq c_60; have z0 := hy0; have z1 := hy1; have z2 := hy2; have z3 := hy3; have e011 : (1 : Int32).toInt = 1 := (by decide +kernel); have rw1 := addI (a := pl) (b := 1) (by omega) (by omega); have e_0 : (0 : Int32).toInt = 0 := (by decide +kernel); have e_59 : (59 : Int32).toInt = 59 := (by decide +kernel); have x0 := ix_toNat (pl + 1); omega))⟩) (by first | (rw [hM]; rfl) | rfl) (by decide) rfl) hS.2.2 dX3_readCommand_132
          · rw [if_pos c_60] at hM
            refine lv_iconst (v := 1) hx hb dX3_readCommand_127 (by decide) ?_
            refine lv_goto (tgt := 132) hx hb dX3_readCommand_128 (by decide) ?_
            refine W.widen (k := 0) (n := 0) (Nat.le_of_ble_eq_true rfl) (Nat.le_of_ble_eq_true rfl) ?_
            exact W.zret (v := 1) hx hb hr rfl (QG_.mk (fun _ => 0) (fun _ => 0) (fun _ => 0) [0, 2, 1] [0, 1] hP hD hK hS (by rw [hM]) (by rw [hM]; exact ⟨(show pl.toInt ≤ (pl + 1).toInt from (by have y0 := f_nlt c_1; have y1 := f_nle c_2; have y2 := f_nle c_59; have y3 := f_eq c_60; have z0 := hy0; have z1 := hy1; have z2 := hy2; have z3 := hy3; have e011 : (1 : Int32).toInt = 1 := (by decide +kernel); have rw1 := addI (a := pl) (b := 1) (by omega) (by omega); have e_0 : (0 : Int32).toInt = 0 := (by decide +kernel); have e_59 : (59 : Int32).toInt = 59 := (by decide +kernel); have b269 := Int32.toInt_lt (pl); have d269 := Int32.le_toInt (pl); have l270 : (1 : Int32).toInt = 1 := (by decide +kernel); have q268 := addI (a := pl) (b := 1) (by omega) (by omega); have x0 := ix_toNat (pl + 1); omega)), (show ((pl + 1).toInt ≤ 60 ∨ (pl + 1).toInt = pl.toInt) from (by have y0 := f_nlt c_1; have y1 := f_nle c_2; have y2 := f_nle c_59; have y3 := f_eq c_60; have z0 := hy0; have z1 := hy1; have z2 := hy2; have z3 := hy3; have e011 : (1 : Int32).toInt = 1 := (by decide +kernel); have rw1 := addI (a := pl) (b := 1) (by omega) (by omega); have e_0 : (0 : Int32).toInt = 0 := (by decide +kernel); have e_59 : (59 : Int32).toInt = 59 := (by decide +kernel); have b272 := Int32.toInt_lt (pl); have d272 := Int32.le_toInt (pl); have l273 : (1 : Int32).toInt = 1 := (by decide +kernel); have q271 := addI (a := pl) (b := 1) (by omega) (by omega); have b275 := Int32.toInt_lt (pl); have d275 := Int32.le_toInt (pl); have l276 : (1 : Int32).toInt = 1 := (by decide +kernel); have q274 := addI (a := pl) (b := 1) (by omega) (by omega); have x0 := ix_toNat (pl + 1); omega)), (show (4 < 6 ∨ 4 = ch) from (by have y0 := f_nlt c_1; have y1 := f_nle c_2; have y2 := f_nle c_59; have y3 := f_eq c_60; have z0 := hy0; have z1 := hy1; have z2 := hy2; have z3 := hy3; have e011 : (1 : Int32).toInt = 1 := (by decide +kernel); have rw1 := addI (a := pl) (b := 1) (by omega) (by omega); have e_0 : (0 : Int32).toInt = 0 := (by decide +kernel); have e_59 : (59 : Int32).toInt = 59 := (by decide +kernel); have x0 := ix_toNat (pl + 1); omega))⟩) (by first | (rw [hM]; rfl) | rfl) (by decide) rfl) hS.2.2 dX3_readCommand_132
      · rw [c_4]
        rw [if_neg (show ¬ (F_X2_beginningWith (sg (ix pl))) = 0 from by rw [c_4]; decide)] at hM
        rw [if_neg (show ¬ (F_X2_beginningWith (sg (ix pl))) = 1 from by rw [c_4]; decide)] at hM
        rw [if_neg (show ¬ (F_X2_beginningWith (sg (ix pl))) = 2 from by rw [c_4]; decide)] at hM
        rw [if_neg (show ¬ (F_X2_beginningWith (sg (ix pl))) = 3 from by rw [c_4]; decide)] at hM
        rw [if_neg (show ¬ (F_X2_beginningWith (sg (ix pl))) = 4 from by rw [c_4]; decide)] at hM
        rw [if_pos c_4] at hM
        refine W.eq (g2 := F0 m 30 ls [.ref (ad 5)]) rfl ?_
        refine lv_goto (tgt := 34) hx hb dX3_readCommand_30 (by decide) ?_
        refine lv_astore_n (lv' := [(1, .ref (ad 5)), (0, .ref h_T)]) hx hb dX3_readCommand_34 rfl hl (by decide) rfl (fun ls hl => ?_)
        refine lv_aload_n hx hb dX3_readCommand_35 rfl (lv_at hl 0 rfl) ?_
        refine lv_ifnonnull (tgt := 41) hx hb dX3_readCommand_36 (by decide) ?_
        refine lv_aload_n hx hb dX3_readCommand_41 rfl (lv_at hl 1 rfl) ?_
        refine lv_aload_n hx hb dX3_readCommand_42 rfl (lv_at hl 0 rfl) ?_
        refine va_put (D := D) (ci := 6) (v := .ref (ad 5)) (ty := tyX3 3) (own := RX3) (C := RX3) (T := TX3) (N := 5) hx hb hts hi_X3 tyX3 tyX3_ok nmX3 hown hK hP hD hS 2 rfl rfl 3 (by decide) (hts (.fieldLink RX3 28 "CanalMaps$CommandText" "change" "LCanalMaps$Change;") (List.mem_of_getElem? (i := 4) (by decide +kernel))) (fun _ h9 => h9) rfl (by decide +kernel) rfl rfl (Nat.le_of_ble_eq_true rfl) dX3_readCommand_43 (fun H locs hP hD hS => ?_)
        have hP : va_P D vwCl [(h_sg, .inl (k_sg, 60, .inl sg)), (h_nu, .inl (k_nu, 3, .inl nu)), (h_T, .inr (6, [.ref h_sg, .int ln, .int pl, .ref (ad 5), .ref h_nu]))] H := hP
        have hD : va_D A [(h_sg, .inl (k_sg, 60, .inl sg)), (h_nu, .inl (k_nu, 3, .inl nu)), (h_T, .inr (6, [.ref h_sg, .int ln, .int pl, .ref (ad 5), .ref h_nu]))] := hD
        refine lv_aload_n hx hb dX3_readCommand_46 rfl (lv_at hl 1 rfl) ?_
        refine lv_dup hx hb dX3_readCommand_47 rfl ?_
        refine va_get (D := D) (ci := 6) (v := .int pl) (own := RX3) (C := RX3) (T := TX3) (N := 5) hx hb hts hi_X3 hown hK hP 2 rfl rfl 2 (by decide) (hts (.fieldLink RX3 19 "CanalMaps$CommandText" "place" "I") (List.mem_of_getElem? (i := 1) (by decide +kernel))) (fun _ h9 => h9) rfl dX3_readCommand_48 ?_
        refine lv_iconst (v := 1) hx hb dX3_readCommand_51 (by decide) ?_
        refine lv_iadd hx hb dX3_readCommand_52 ?_
        refine va_put (D := D) (ci := 6) (v := .int (pl + 1)) (ty := .int) (own := RX3) (C := RX3) (T := TX3) (N := 5) hx hb hts hi_X3 tyX3 tyX3_ok nmX3 hown hK hP hD hS 2 rfl rfl 2 (by decide) (hts (.fieldLink RX3 19 "CanalMaps$CommandText" "place" "I") (List.mem_of_getElem? (i := 1) (by decide +kernel))) (fun _ h9 => h9) rfl (by decide +kernel) rfl rfl (Nat.le_of_ble_eq_true rfl) dX3_readCommand_53 (fun H locs hP hD hS => ?_)
        have hP : va_P D vwCl [(h_sg, .inl (k_sg, 60, .inl sg)), (h_nu, .inl (k_nu, 3, .inl nu)), (h_T, .inr (6, [.ref h_sg, .int ln, .int (pl + 1), .ref (ad 5), .ref h_nu]))] H := hP
        have hD : va_D A [(h_sg, .inl (k_sg, 60, .inl sg)), (h_nu, .inl (k_nu, 3, .inl nu)), (h_T, .inr (6, [.ref h_sg, .int ln, .int (pl + 1), .ref (ad 5), .ref h_nu]))] := hD
        refine lv_aload_n hx hb dX3_readCommand_56 rfl (lv_at hl 1 rfl) ?_
        refine va_get (D := D) (ci := 6) (v := .ref h_nu) (own := RX3) (C := RX3) (T := TX3) (N := 5) hx hb hts hi_X3 hown hK hP 2 rfl rfl 4 (by decide) (hts (.fieldLink RX3 31 "CanalMaps$CommandText" "numbers" "[I") (List.mem_of_getElem? (i := 5) (by decide +kernel))) (fun _ h9 => h9) rfl dX3_readCommand_57 ?_
        refine lv_iconst (v := 0) hx hb dX3_readCommand_60 (by decide) ?_
        obtain ⟨y9, hy9⟩ : ∃ y9, (F_J7_fill_53178 nu 3 0) = y9 := ⟨_, rfl⟩
        have hcon := (c_J7_fill_53178 l hl0 D ad H.size h_nu k_nu 3 nu 0 (by decide +kernel))
        rw [hy9] at hcon
        refine kc_ (wc := [(h_nu, .inl (k_nu, 3, .inl nu))]) (wr := [(h_sg, .inl (k_sg, 60, .inl sg)), (h_T, .inr (6, [.ref h_sg, .int ln, .int (pl + 1), .ref (ad 5), .ref h_nu]))]) (va_runS (As := [.ref h_nu, .int 0]) (rest := []) ⟨hx, hb, hml, hown, hts⟩ hcon (va_cwS 2 hts gX3_readCommand_J7_fill_53178 rfl rfl rfl (by decide +kernel) ⟨Nat.le_of_ble_eq_true rfl, Nat.le_of_ble_eq_true rfl⟩) ⟨PC_.blind, PC_.pre hF hK hP hD hS hA [1] [1] rfl (by decide) rfl⟩ rfl rfl hl.1 rfl (lv_room (Nat.le_of_ble_eq_true rfl)) dX3_readCommand_61 ⟨(Nat.le_of_ble_eq_true rfl), (Nat.le_of_ble_eq_true rfl)⟩) hK hP hD hS hA [1] [0, 2] [0] rfl rfl (by decide) (by decide) rfl (fun qa_61 ka_61 ia H locs hpo hP hD hK hS => ?_)
        subst hy9
        have hP : va_P D vwCl [(h_sg, .inl (k_sg, 60, .inl sg)), (h_T, .inr (6, [.ref h_sg, .int ln, .int (pl + 1), .ref (ad 5), .ref h_nu])), (h_nu, .inl (k_nu, 3, .inl (F_J7_fill_53178 nu 3 0)))] H := hP
        have hD : va_D A [(h_sg, .inl (k_sg, 60, .inl sg)), (h_T, .inr (6, [.ref h_sg, .int ln, .int (pl + 1), .ref (ad 5), .ref h_nu])), (h_nu, .inl (k_nu, 3, .inl (F_J7_fill_53178 nu 3 0)))] := hD
        have hK : va_K D vwCl [(k_sg, .char), (k_nu, .int)] s := hK
        refine W.eq (g2 := F0 m 64 ls []) rfl ?_
        refine lv_aload_n hx hb dX3_readCommand_64 rfl (lv_at hl 1 rfl) ?_
        refine va_get (D := D) (ci := 6) (v := .ref (ad 5)) (own := RX3) (C := RX3) (T := TX3) (N := 5) hx hb hts hi_X3 hown hK hP 1 rfl rfl 3 (by decide) (hts (.fieldLink RX3 28 "CanalMaps$CommandText" "change" "LCanalMaps$Change;") (List.mem_of_getElem? (i := 4) (by decide +kernel))) (fun _ h9 => h9) rfl dX3_readCommand_65 ?_
        refine kgetfN_ (o := "CanalMaps$Change") (n := "form") (d := "Ljava/lang/String;") (q := ad 5) (v := .ref (ad 24)) hx hb (fxfo_ hF 5 (by decide)) hS hown (fxn_ hF (RX3, 58, "CanalMaps$Change", "form", "Ljava/lang/String;")) (fun _ h9 => h9) dX3_readCommand_68 ?_
        refine lv_astore_n (lv' := [(2, .ref (ad 24)), (1, .ref (ad 5)), (0, .ref h_T)]) hx hb dX3_readCommand_71 rfl hl (by decide) rfl (fun ls hl => ?_)
        refine lv_iconst (v := 0) hx hb dX3_readCommand_72 (by decide) ?_
        refine lv_istore_n (lv' := [(3, .int 0), (2, .ref (ad 24)), (1, .ref (ad 5)), (0, .ref h_T)]) hx hb dX3_readCommand_73 rfl hl (by decide) rfl (fun ls hl => ?_)
        refine lv_iload_n hx hb dX3_readCommand_74 rfl (lv_at hl 0 rfl) ?_
        refine lv_aload_n hx hb dX3_readCommand_75 rfl (lv_at hl 1 rfl) ?_
        refine kr_ (va_runV (As := []) (rest := [.int 0]) ⟨hx, hb, hml, hown, hts⟩ (c_J0_length_8abf5_ad24 l hl0 D ad H.size) (cwV 0 hts gX3_readCommand_J0_length_8abf5 rfl rfl rfl (by decide +kernel) ⟨Nat.le_of_ble_eq_true rfl, Nat.le_of_ble_eq_true rfl⟩) ⟨PR_.blind, vk_recv (fxst_ hF) (i := 4) (by decide) hS, PR_.pre hF hK (hP.sub [] rfl) hS hA [] rfl⟩ rfl rfl hl.1 rfl (lv_room (Nat.le_of_ble_eq_true rfl)) dX3_readCommand_76 ⟨(Nat.le_of_ble_eq_true rfl), (Nat.le_of_ble_eq_true rfl)⟩) hP hS hA (fun H locs hP hS => ?_)
        refine W.eq (g2 := F0 m 79 ls [.int 2, .int 0]) rfl ?_
        refine lv_icmp_ge (tgt := 102) hx hb dX3_readCommand_79 (by decide) (fun c9 => absurd c9 (by decide +kernel)) (fun _ => ?_)
        refine lv_aload_n hx hb dX3_readCommand_82 rfl (lv_at hl 3 rfl) ?_
        refine lv_aload_n hx hb dX3_readCommand_83 rfl (lv_at hl 1 rfl) ?_
        refine lv_iload_n hx hb dX3_readCommand_84 rfl (lv_at hl 0 rfl) ?_
        refine kr_ (va_runV (As := [.int 0]) (rest := [.ref h_T]) ⟨hx, hb, hml, hown, hts⟩ (c_J0_charAt_5068e_0_ad24 l hl0 D ad H.size) (cwV 1 hts gX3_readCommand_J0_charAt_5068e rfl rfl rfl (by decide +kernel) ⟨Nat.le_of_ble_eq_true rfl, Nat.le_of_ble_eq_true rfl⟩) ⟨PR_.blind, vk_recv (fxst_ hF) (i := 4) (by decide) hS, PR_.pre hF hK (hP.sub [] rfl) hS hA [] rfl⟩ rfl rfl hl.1 rfl (lv_room (Nat.le_of_ble_eq_true rfl)) dX3_readCommand_85 ⟨(Nat.le_of_ble_eq_true rfl), (Nat.le_of_ble_eq_true rfl)⟩) hP hS hA (fun H locs hP hS => ?_)
        refine W.eq (g2 := F0 m 88 ls [.int 48, .ref h_T]) rfl ?_
        have hcon := (c_X3_readPart_48 l hl0 D ad H.size h_sg h_nu h_T k_sg k_nu (.ref (ad 5)) sg (F_J7_fill_53178 nu 3 0) ln (pl + 1) (by have y0 := f_nlt c_1; have y1 := f_nle c_2; have z0 := hy0; have z1 := hy1; have z2 := hy2; have z3 := hy3; have e011 : (1 : Int32).toInt = 1 := (by decide +kernel); have rw1 := addI (a := pl) (b := 1) (by omega) (by omega); have e_0 : (0 : Int32).toInt = 0 := (by decide +kernel); omega) (by have y0 := f_nlt c_1; have y1 := f_nle c_2; have z0 := hy0; have z1 := hy1; have z2 := hy2; have z3 := hy3; have e011 : (1 : Int32).toInt = 1 := (by decide +kernel); have rw1 := addI (a := pl) (b := 1) (by omega) (by omega); have e_0 : (0 : Int32).toInt = 0 := (by decide +kernel); omega) (by have y0 := f_nlt c_1; have y1 := f_nle c_2; have z0 := hy0; have z1 := hy1; have z2 := hy2; have z3 := hy3; have e011 : (1 : Int32).toInt = 1 := (by decide +kernel); have rw1 := addI (a := pl) (b := 1) (by omega) (by omega); have e_0 : (0 : Int32).toInt = 0 := (by decide +kernel); have b278 := Int32.toInt_lt (pl); have d278 := Int32.le_toInt (pl); have l279 : (1 : Int32).toInt = 1 := (by decide +kernel); have q277 := addI (a := pl) (b := 1) (by omega) (by omega); omega) (by have y0 := f_nlt c_1; have y1 := f_nle c_2; have z0 := hy0; have z1 := hy1; have z2 := hy2; have z3 := hy3; have e011 : (1 : Int32).toInt = 1 := (by decide +kernel); have rw1 := addI (a := pl) (b := 1) (by omega) (by omega); have e_0 : (0 : Int32).toInt = 0 := (by decide +kernel); have b281 := Int32.toInt_lt (pl); have d281 := Int32.le_toInt (pl); have l282 : (1 : Int32).toInt = 1 := (by decide +kernel); have q280 := addI (a := pl) (b := 1) (by omega) (by omega); omega))
        generalize hy_64 : (F_X3_readPart_48 sg ln (pl + 1) (F_J7_fill_53178 nu 3 0)) = y9 at hcon hM
        obtain ⟨y88_0, y88_1, y88_2⟩ := y9
        refine kc_ (wc := [(h_sg, .inl (k_sg, 60, .inl sg)), (h_nu, .inl (k_nu, 3, .inl (F_J7_fill_53178 nu 3 0))), (h_T, .inr (6, [.ref h_sg, .int ln, .int (pl + 1), .ref (ad 5), .ref h_nu]))]) (wr := []) (va_runV (As := [.int 48]) (rest := []) ⟨hx, hb, hml, hown, hts⟩ hcon (cwV 1 hts gX3_readCommand_X3_readPart rfl rfl rfl (by decide +kernel) ⟨Nat.le_of_ble_eq_true rfl, Nat.le_of_ble_eq_true rfl⟩) ⟨PC_.blind, va_recv hK hP (ci := 6) (q0 := 1) rfl rfl, PC_.pre hF hK hP hD hS hA [0, 2, 1] [0, 1] rfl (by decide) rfl⟩ rfl rfl hl.1 rfl (lv_room (Nat.le_of_ble_eq_true rfl)) dX3_readCommand_88 ⟨(Nat.le_of_ble_eq_true rfl), (Nat.le_of_ble_eq_true rfl)⟩) hK hP hD hS hA [0, 2, 1] [] [] rfl rfl (by decide) (by decide) rfl (fun qa_64 ka_64 ia H locs hpo hP hD hK hS => ?_)
        have hM : F_X3_readCommand sg ln pl ch nu = (if y88_0 = 0 then (0, y88_1, y88_2, 5) else (K_X3_readCommand_88_7 sg ln (F_X3_readPart_63 sg ln y88_2 y88_1))) := hM
        have hen_64 : (pl + 1).toInt ≤ y88_2.toInt ∧ y88_2.toInt ≤ (pl + 1).toInt + 1 ∧ (y88_2.toInt ≤ 60 ∨ y88_2.toInt = (pl + 1).toInt) := hpo
        have hP : va_P D vwCl [(h_sg, .inl (k_sg, 60, .inl sg)), (h_nu, .inl (k_nu, 3, .inl y88_1)), (h_T, .inr (6, [.ref h_sg, .int ln, .int y88_2, .ref (ad 5), .ref h_nu]))] H := hP
        have hD : va_D A [(h_sg, .inl (k_sg, 60, .inl sg)), (h_nu, .inl (k_nu, 3, .inl y88_1)), (h_T, .inr (6, [.ref h_sg, .int ln, .int y88_2, .ref (ad 5), .ref h_nu]))] := hD
        have hK : va_K D vwCl [(k_sg, .char), (k_nu, .int)] s := hK
        refine W.eq (g2 := F0 m 91 ls [.int y88_0]) rfl ?_
        refine lv_if_ne (tgt := 96) hx hb dX3_readCommand_91 (by decide) (fun c_65 => ?_) (fun c_65 => ?_)
        · rw [if_neg c_65] at hM
          refine lv_iinc (v := 1) (lv' := [(3, .int 1), (2, .ref (ad 24)), (1, .ref (ad 5)), (0, .ref h_T)]) hx hb dX3_readCommand_96 hl (k := 0) rfl (by decide +kernel) (by decide) rfl (fun ls hl => ?_)
          refine lv_goto (tgt := 74) hx hb dX3_readCommand_99 (by decide) ?_
          refine lv_iload_n hx hb dX3_readCommand_74 rfl (lv_at hl 0 rfl) ?_
          refine lv_aload_n hx hb dX3_readCommand_75 rfl (lv_at hl 1 rfl) ?_
          refine kr_ (va_runV (As := []) (rest := [.int 1]) ⟨hx, hb, hml, hown, hts⟩ (c_J0_length_8abf5_ad24 l hl0 D ad H.size) (cwV 0 hts gX3_readCommand_J0_length_8abf5 rfl rfl rfl (by decide +kernel) ⟨Nat.le_of_ble_eq_true rfl, Nat.le_of_ble_eq_true rfl⟩) ⟨PR_.blind, vk_recv (fxst_ hF) (i := 4) (by decide) hS, PR_.pre hF hK (hP.sub [] rfl) hS hA [] rfl⟩ rfl rfl hl.1 rfl (lv_room (Nat.le_of_ble_eq_true rfl)) dX3_readCommand_76 ⟨(Nat.le_of_ble_eq_true rfl), (Nat.le_of_ble_eq_true rfl)⟩) hP hS hA (fun H locs hP hS => ?_)
          refine W.eq (g2 := F0 m 79 ls [.int 2, .int 1]) rfl ?_
          refine lv_icmp_ge (tgt := 102) hx hb dX3_readCommand_79 (by decide) (fun c9 => absurd c9 (by decide +kernel)) (fun _ => ?_)
          refine lv_aload_n hx hb dX3_readCommand_82 rfl (lv_at hl 3 rfl) ?_
          refine lv_aload_n hx hb dX3_readCommand_83 rfl (lv_at hl 1 rfl) ?_
          refine lv_iload_n hx hb dX3_readCommand_84 rfl (lv_at hl 0 rfl) ?_
          refine kr_ (va_runV (As := [.int 1]) (rest := [.ref h_T]) ⟨hx, hb, hml, hown, hts⟩ (c_J0_charAt_5068e_1_ad24 l hl0 D ad H.size) (cwV 1 hts gX3_readCommand_J0_charAt_5068e rfl rfl rfl (by decide +kernel) ⟨Nat.le_of_ble_eq_true rfl, Nat.le_of_ble_eq_true rfl⟩) ⟨PR_.blind, vk_recv (fxst_ hF) (i := 4) (by decide) hS, PR_.pre hF hK (hP.sub [] rfl) hS hA [] rfl⟩ rfl rfl hl.1 rfl (lv_room (Nat.le_of_ble_eq_true rfl)) dX3_readCommand_85 ⟨(Nat.le_of_ble_eq_true rfl), (Nat.le_of_ble_eq_true rfl)⟩) hP hS hA (fun H locs hP hS => ?_)
          refine W.eq (g2 := F0 m 88 ls [.int 63, .ref h_T]) rfl ?_
          have hcon := (c_X3_readPart_63 l hl0 D ad H.size h_sg h_nu h_T k_sg k_nu (.ref (ad 5)) sg y88_1 ln y88_2 (by have y0 := f_nlt c_1; have y1 := f_nle c_2; have y2 := f_neq c_65; have z0 := hy0; have z1 := hy1; have z2 := hy2; have z3 := hy3; have z4 := hen_64; have e011 : (1 : Int32).toInt = 1 := (by decide +kernel); have rw1 := addI (a := pl) (b := 1) (by omega) (by omega); have e_0 : (0 : Int32).toInt = 0 := (by decide +kernel); omega) (by have y0 := f_nlt c_1; have y1 := f_nle c_2; have y2 := f_neq c_65; have z0 := hy0; have z1 := hy1; have z2 := hy2; have z3 := hy3; have z4 := hen_64; have e011 : (1 : Int32).toInt = 1 := (by decide +kernel); have rw1 := addI (a := pl) (b := 1) (by omega) (by omega); have e_0 : (0 : Int32).toInt = 0 := (by decide +kernel); omega) (by have y0 := f_nlt c_1; have y1 := f_nle c_2; have y2 := f_neq c_65; have z0 := hy0; have z1 := hy1; have z2 := hy2; have z3 := hy3; have z4 := hen_64; have e011 : (1 : Int32).toInt = 1 := (by decide +kernel); have rw1 := addI (a := pl) (b := 1) (by omega) (by omega); have e_0 : (0 : Int32).toInt = 0 := (by decide +kernel); omega) (by have y0 := f_nlt c_1; have y1 := f_nle c_2; have y2 := f_neq c_65; have z0 := hy0; have z1 := hy1; have z2 := hy2; have z3 := hy3; have z4 := hen_64; have e011 : (1 : Int32).toInt = 1 := (by decide +kernel); have rw1 := addI (a := pl) (b := 1) (by omega) (by omega); have e_0 : (0 : Int32).toInt = 0 := (by decide +kernel); omega))
          generalize hy_68 : (F_X3_readPart_63 sg ln y88_2 y88_1) = y9 at hcon hM
          obtain ⟨y88b_0, y88b_1, y88b_2⟩ := y9
          refine kc_ (wc := [(h_sg, .inl (k_sg, 60, .inl sg)), (h_nu, .inl (k_nu, 3, .inl y88_1)), (h_T, .inr (6, [.ref h_sg, .int ln, .int y88_2, .ref (ad 5), .ref h_nu]))]) (wr := []) (va_runV (As := [.int 63]) (rest := []) ⟨hx, hb, hml, hown, hts⟩ hcon (cwV 1 hts gX3_readCommand_X3_readPart rfl rfl rfl (by decide +kernel) ⟨Nat.le_of_ble_eq_true rfl, Nat.le_of_ble_eq_true rfl⟩) ⟨PC_.blind, va_recv hK hP (ci := 6) (q0 := 2) rfl rfl, PC_.pre hF hK hP hD hS hA [0, 1, 2] [0, 1] rfl (by decide) rfl⟩ rfl rfl hl.1 rfl (lv_room (Nat.le_of_ble_eq_true rfl)) dX3_readCommand_88 ⟨(Nat.le_of_ble_eq_true rfl), (Nat.le_of_ble_eq_true rfl)⟩) hK hP hD hS hA [0, 1, 2] [] [] rfl rfl (by decide) (by decide) rfl (fun qa_68 ka_68 ia H locs hpo hP hD hK hS => ?_)
          have hM : F_X3_readCommand sg ln pl ch nu = (if y88b_0 = 0 then (0, y88b_1, y88b_2, 5) else (if ln ≤ y88b_2 then (1, y88b_1, y88b_2, 5) else (if (sg (ix y88b_2)) = 59 then (1, y88b_1, y88b_2, 5) else (0, y88b_1, y88b_2, 5)))) := hM
          have hen_68 : y88_2.toInt ≤ y88b_2.toInt ∧ y88b_2.toInt ≤ y88_2.toInt + 1 ∧ (y88b_2.toInt ≤ 60 ∨ y88b_2.toInt = y88_2.toInt) := hpo
          have hP : va_P D vwCl [(h_sg, .inl (k_sg, 60, .inl sg)), (h_nu, .inl (k_nu, 3, .inl y88b_1)), (h_T, .inr (6, [.ref h_sg, .int ln, .int y88b_2, .ref (ad 5), .ref h_nu]))] H := hP
          have hD : va_D A [(h_sg, .inl (k_sg, 60, .inl sg)), (h_nu, .inl (k_nu, 3, .inl y88b_1)), (h_T, .inr (6, [.ref h_sg, .int ln, .int y88b_2, .ref (ad 5), .ref h_nu]))] := hD
          have hK : va_K D vwCl [(k_sg, .char), (k_nu, .int)] s := hK
          refine W.eq (g2 := F0 m 91 ls [.int y88b_0]) rfl ?_
          refine lv_if_ne (tgt := 96) hx hb dX3_readCommand_91 (by decide) (fun c_69 => ?_) (fun c_69 => ?_)
          · rw [if_neg c_69] at hM
            refine lv_iinc (v := 2) (lv' := [(3, .int 2), (2, .ref (ad 24)), (1, .ref (ad 5)), (0, .ref h_T)]) hx hb dX3_readCommand_96 hl (k := 0) rfl (by decide +kernel) (by decide) rfl (fun ls hl => ?_)
            refine lv_goto (tgt := 74) hx hb dX3_readCommand_99 (by decide) ?_
            refine lv_iload_n hx hb dX3_readCommand_74 rfl (lv_at hl 0 rfl) ?_
            refine lv_aload_n hx hb dX3_readCommand_75 rfl (lv_at hl 1 rfl) ?_
            refine kr_ (va_runV (As := []) (rest := [.int 2]) ⟨hx, hb, hml, hown, hts⟩ (c_J0_length_8abf5_ad24 l hl0 D ad H.size) (cwV 0 hts gX3_readCommand_J0_length_8abf5 rfl rfl rfl (by decide +kernel) ⟨Nat.le_of_ble_eq_true rfl, Nat.le_of_ble_eq_true rfl⟩) ⟨PR_.blind, vk_recv (fxst_ hF) (i := 4) (by decide) hS, PR_.pre hF hK (hP.sub [] rfl) hS hA [] rfl⟩ rfl rfl hl.1 rfl (lv_room (Nat.le_of_ble_eq_true rfl)) dX3_readCommand_76 ⟨(Nat.le_of_ble_eq_true rfl), (Nat.le_of_ble_eq_true rfl)⟩) hP hS hA (fun H locs hP hS => ?_)
            refine W.eq (g2 := F0 m 79 ls [.int 2, .int 2]) rfl ?_
            refine lv_icmp_ge (tgt := 102) hx hb dX3_readCommand_79 (by decide) (fun _ => ?_) (fun c9 => absurd (by decide +kernel) c9)
            refine lv_aload_n hx hb dX3_readCommand_102 rfl (lv_at hl 3 rfl) ?_
            refine va_get (D := D) (ci := 6) (v := .int y88b_2) (own := RX3) (C := RX3) (T := TX3) (N := 5) hx hb hts hi_X3 hown hK hP 2 rfl rfl 2 (by decide) (hts (.fieldLink RX3 19 "CanalMaps$CommandText" "place" "I") (List.mem_of_getElem? (i := 1) (by decide +kernel))) (fun _ h9 => h9) rfl dX3_readCommand_103 ?_
            refine lv_aload_n hx hb dX3_readCommand_106 rfl (lv_at hl 3 rfl) ?_
            refine va_get (D := D) (ci := 6) (v := .int ln) (own := RX3) (C := RX3) (T := TX3) (N := 5) hx hb hts hi_X3 hown hK hP 2 rfl rfl 1 (by decide) (hts (.fieldLink RX3 15 "CanalMaps$CommandText" "length" "I") (List.mem_of_getElem? (i := 2) (by decide +kernel))) (fun _ h9 => h9) rfl dX3_readCommand_107 ?_
            refine lv_icmp_ge (tgt := 127) hx hb dX3_readCommand_110 (by decide) (fun c_71 => ?_) (fun c_71 => ?_)
            · rw [if_pos c_71] at hM
              refine lv_iconst (v := 1) hx hb dX3_readCommand_127 (by decide) ?_
              refine lv_goto (tgt := 132) hx hb dX3_readCommand_128 (by decide) ?_
              refine W.widen (k := 0) (n := 0) (Nat.le_of_ble_eq_true rfl) (Nat.le_of_ble_eq_true rfl) ?_
              exact W.zret (v := 1) hx hb hr rfl (QG_.mk (fun _ => 0) (fun _ => 0) (fun _ => 0) [0, 1, 2] [0, 1] hP hD hK hS (by rw [hM]) (by rw [hM]; exact ⟨(show pl.toInt ≤ y88b_2.toInt from (by have y0 := f_nlt c_1; have y1 := f_nle c_2; have y2 := f_neq c_65; have y3 := f_neq c_69; have y4 := f_le c_71; have z0 := hy0; have z1 := hy1; have z2 := hy2; have z3 := hy3; have z4 := hen_64; have z5 := hen_68; have e011 : (1 : Int32).toInt = 1 := (by decide +kernel); have rw1 := addI (a := pl) (b := 1) (by omega) (by omega); have e_0 : (0 : Int32).toInt = 0 := (by decide +kernel); have b285 := Int32.toInt_lt (y88b_2); have d285 := Int32.le_toInt (y88b_2); omega)), (show (y88b_2.toInt ≤ 60 ∨ y88b_2.toInt = pl.toInt) from (by have y0 := f_nlt c_1; have y1 := f_nle c_2; have y2 := f_neq c_65; have y3 := f_neq c_69; have y4 := f_le c_71; have z0 := hy0; have z1 := hy1; have z2 := hy2; have z3 := hy3; have z4 := hen_64; have z5 := hen_68; have e011 : (1 : Int32).toInt = 1 := (by decide +kernel); have rw1 := addI (a := pl) (b := 1) (by omega) (by omega); have e_0 : (0 : Int32).toInt = 0 := (by decide +kernel); have b286 := Int32.toInt_lt (y88b_2); have d286 := Int32.le_toInt (y88b_2); have b287 := Int32.toInt_lt (y88b_2); have d287 := Int32.le_toInt (y88b_2); omega)), (show (5 < 6 ∨ 5 = ch) from (by have y0 := f_nlt c_1; have y1 := f_nle c_2; have y2 := f_neq c_65; have y3 := f_neq c_69; have y4 := f_le c_71; have z0 := hy0; have z1 := hy1; have z2 := hy2; have z3 := hy3; have z4 := hen_64; have z5 := hen_68; have e011 : (1 : Int32).toInt = 1 := (by decide +kernel); have rw1 := addI (a := pl) (b := 1) (by omega) (by omega); have e_0 : (0 : Int32).toInt = 0 := (by decide +kernel); omega))⟩) (by first | (rw [hM]; rfl) | rfl) (by decide) rfl) hS.2.2 dX3_readCommand_132
            · rw [if_neg c_71] at hM
              refine lv_aload_n hx hb dX3_readCommand_113 rfl (lv_at hl 3 rfl) ?_
              refine va_get (D := D) (ci := 6) (v := .ref h_sg) (own := RX3) (C := RX3) (T := TX3) (N := 5) hx hb hts hi_X3 hown hK hP 2 rfl rfl 0 (by decide) (hts (.fieldLink RX3 9 "CanalMaps$CommandText" "signs" "[C") (List.mem_of_getElem? (i := 3) (by decide +kernel))) (fun _ h9 => h9) rfl dX3_readCommand_114 ?_
              refine lv_aload_n hx hb dX3_readCommand_117 rfl (lv_at hl 3 rfl) ?_
              refine va_get (D := D) (ci := 6) (v := .int y88b_2) (own := RX3) (C := RX3) (T := TX3) (N := 5) hx hb hts hi_X3 hown hK hP 2 rfl rfl 2 (by decide) (hts (.fieldLink RX3 19 "CanalMaps$CommandText" "place" "I") (List.mem_of_getElem? (i := 1) (by decide +kernel))) (fun _ h9 => h9) rfl dX3_readCommand_118 ?_
              refine va_cald hx hb hK hP 0 0 rfl rfl (vinI (by have y0 := f_nlt c_1; have y1 := f_nle c_2; have y2 := f_neq c_65; have y3 := f_neq c_69; have y4 := f_nle c_71; have z0 := hy0; have z1 := hy1; have z2 := hy2; have z3 := hy3; have z4 := hen_64; have z5 := hen_68; have e011 : (1 : Int32).toInt = 1 := (by decide +kernel); have rw1 := addI (a := pl) (b := 1) (by omega) (by omega); have e_0 : (0 : Int32).toInt = 0 := (by decide +kernel); have b288 := Int32.toInt_lt (y88b_2); have d288 := Int32.le_toInt (y88b_2); omega) (by have y0 := f_nlt c_1; have y1 := f_nle c_2; have y2 := f_neq c_65; have y3 := f_neq c_69; have y4 := f_nle c_71; have z0 := hy0; have z1 := hy1; have z2 := hy2; have z3 := hy3; have z4 := hen_64; have z5 := hen_68; have e011 : (1 : Int32).toInt = 1 := (by decide +kernel); have rw1 := addI (a := pl) (b := 1) (by omega) (by omega); have e_0 : (0 : Int32).toInt = 0 := (by decide +kernel); have b288 := Int32.toInt_lt (y88b_2); have d288 := Int32.le_toInt (y88b_2); omega)) dX3_readCommand_121 ?_
              refine kt_ (v := (sg (ix y88b_2))) rfl ?_
              refine lv_bipush (v := 59) hx hb dX3_readCommand_122 (by decide) ?_
              refine lv_icmp_ne (tgt := 131) hx hb dX3_readCommand_124 (by decide) (fun c_72 => ?_) (fun c_72 => ?_)
              · rw [if_neg c_72] at hM
                refine lv_iconst (v := 0) hx hb dX3_readCommand_131 (by decide) ?_
                refine W.widen (k := 0) (n := 0) (Nat.le_of_ble_eq_true rfl) (Nat.le_of_ble_eq_true rfl) ?_
                exact W.zret (v := 0) hx hb hr rfl (QG_.mk (fun _ => 0) (fun _ => 0) (fun _ => 0) [0, 1, 2] [0, 1] hP hD hK hS (by rw [hM]) (by rw [hM]; exact ⟨(show pl.toInt ≤ y88b_2.toInt from (by have y0 := f_nlt c_1; have y1 := f_nle c_2; have y2 := f_neq c_65; have y3 := f_neq c_69; have y4 := f_nle c_71; have y5 := f_neq c_72; have z0 := hy0; have z1 := hy1; have z2 := hy2; have z3 := hy3; have z4 := hen_64; have z5 := hen_68; have e011 : (1 : Int32).toInt = 1 := (by decide +kernel); have rw1 := addI (a := pl) (b := 1) (by omega) (by omega); have e_0 : (0 : Int32).toInt = 0 := (by decide +kernel); have e_59 : (59 : Int32).toInt = 59 := (by decide +kernel); have b289 := Int32.toInt_lt (y88b_2); have d289 := Int32.le_toInt (y88b_2); have x0 := ix_toNat y88b_2; omega)), (show (y88b_2.toInt ≤ 60 ∨ y88b_2.toInt = pl.toInt) from (by have y0 := f_nlt c_1; have y1 := f_nle c_2; have y2 := f_neq c_65; have y3 := f_neq c_69; have y4 := f_nle c_71; have y5 := f_neq c_72; have z0 := hy0; have z1 := hy1; have z2 := hy2; have z3 := hy3; have z4 := hen_64; have z5 := hen_68; have e011 : (1 : Int32).toInt = 1 := (by decide +kernel); have rw1 := addI (a := pl) (b := 1) (by omega) (by omega); have e_0 : (0 : Int32).toInt = 0 := (by decide +kernel); have e_59 : (59 : Int32).toInt = 59 := (by decide +kernel); have b290 := Int32.toInt_lt (y88b_2); have d290 := Int32.le_toInt (y88b_2); have b291 := Int32.toInt_lt (y88b_2); have d291 := Int32.le_toInt (y88b_2); have x0 := ix_toNat y88b_2; omega)), (show (5 < 6 ∨ 5 = ch) from (by have y0 := f_nlt c_1; have y1 := f_nle c_2; have y2 := f_neq c_65; have y3 := f_neq c_69; have y4 := f_nle c_71; have y5 := f_neq c_72; have z0 := hy0; have z1 := hy1; have z2 := hy2; have z3 := hy3; have z4 := hen_64; have z5 := hen_68; have e011 : (1 : Int32).toInt = 1 := (by decide +kernel); have rw1 := addI (a := pl) (b := 1) (by omega) (by omega); have e_0 : (0 : Int32).toInt = 0 := (by decide +kernel); have e_59 : (59 : Int32).toInt = 59 := (by decide +kernel); have x0 := ix_toNat y88b_2; omega))⟩) (by first | (rw [hM]; rfl) | rfl) (by decide) rfl) hS.2.2 dX3_readCommand_132
              · rw [if_pos c_72] at hM
                refine lv_iconst (v := 1) hx hb dX3_readCommand_127 (by decide) ?_
                refine lv_goto (tgt := 132) hx hb dX3_readCommand_128 (by decide) ?_
                refine W.widen (k := 0) (n := 0) (Nat.le_of_ble_eq_true rfl) (Nat.le_of_ble_eq_true rfl) ?_
                exact W.zret (v := 1) hx hb hr rfl (QG_.mk (fun _ => 0) (fun _ => 0) (fun _ => 0) [0, 1, 2] [0, 1] hP hD hK hS (by rw [hM]) (by rw [hM]; exact ⟨(show pl.toInt ≤ y88b_2.toInt from (by have y0 := f_nlt c_1; have y1 := f_nle c_2; have y2 := f_neq c_65; have y3 := f_neq c_69; have y4 := f_nle c_71; have y5 := f_eq c_72; have z0 := hy0; have z1 := hy1; have z2 := hy2; have z3 := hy3; have z4 := hen_64; have z5 := hen_68; have e011 : (1 : Int32).toInt = 1 := (by decide +kernel); have rw1 := addI (a := pl) (b := 1) (by omega) (by omega); have e_0 : (0 : Int32).toInt = 0 := (by decide +kernel); have e_59 : (59 : Int32).toInt = 59 := (by decide +kernel); have b292 := Int32.toInt_lt (y88b_2); have d292 := Int32.le_toInt (y88b_2); have x0 := ix_toNat y88b_2; omega)), (show (y88b_2.toInt ≤ 60 ∨ y88b_2.toInt = pl.toInt) from (by have y0 := f_nlt c_1; have y1 := f_nle c_2; have y2 := f_neq c_65; have y3 := f_neq c_69; have y4 := f_nle c_71; have y5 := f_eq c_72; have z0 := hy0; have z1 := hy1; have z2 := hy2; have z3 := hy3; have z4 := hen_64; have z5 := hen_68; have e011 : (1 : Int32).toInt = 1 := (by decide +kernel); have rw1 := addI (a := pl) (b := 1) (by omega) (by omega); have e_0 : (0 : Int32).toInt = 0 := (by decide +kernel); have e_59 : (59 : Int32).toInt = 59 := (by decide +kernel); have b293 := Int32.toInt_lt (y88b_2); have d293 := Int32.le_toInt (y88b_2); have b294 := Int32.toInt_lt (y88b_2); have d294 := Int32.le_toInt (y88b_2); have x0 := ix_toNat y88b_2; omega)), (show (5 < 6 ∨ 5 = ch) from (by have y0 := f_nlt c_1; have y1 := f_nle c_2; have y2 := f_neq c_65; have y3 := f_neq c_69; have y4 := f_nle c_71; have y5 := f_eq c_72; have z0 := hy0; have z1 := hy1; have z2 := hy2; have z3 := hy3; have z4 := hen_64; have z5 := hen_68; have e011 : (1 : Int32).toInt = 1 := (by decide +kernel); have rw1 := addI (a := pl) (b := 1) (by omega) (by omega); have e_0 : (0 : Int32).toInt = 0 := (by decide +kernel); have e_59 : (59 : Int32).toInt = 59 := (by decide +kernel); have x0 := ix_toNat y88b_2; omega))⟩) (by first | (rw [hM]; rfl) | rfl) (by decide) rfl) hS.2.2 dX3_readCommand_132
          · rw [if_pos c_69] at hM
            refine lv_iconst (v := 0) hx hb dX3_readCommand_94 (by decide) ?_
            refine W.widen (k := 0) (n := 0) (Nat.le_of_ble_eq_true rfl) (Nat.le_of_ble_eq_true rfl) ?_
            exact W.zret (v := 0) hx hb hr rfl (QG_.mk (fun _ => 0) (fun _ => 0) (fun _ => 0) [0, 1, 2] [0, 1] hP hD hK hS (by rw [hM]) (by rw [hM]; exact ⟨(show pl.toInt ≤ y88b_2.toInt from (by have y0 := f_nlt c_1; have y1 := f_nle c_2; have y2 := f_neq c_65; have y3 := f_eq c_69; have z0 := hy0; have z1 := hy1; have z2 := hy2; have z3 := hy3; have z4 := hen_64; have z5 := hen_68; have e011 : (1 : Int32).toInt = 1 := (by decide +kernel); have rw1 := addI (a := pl) (b := 1) (by omega) (by omega); have e_0 : (0 : Int32).toInt = 0 := (by decide +kernel); have b295 := Int32.toInt_lt (y88b_2); have d295 := Int32.le_toInt (y88b_2); omega)), (show (y88b_2.toInt ≤ 60 ∨ y88b_2.toInt = pl.toInt) from (by have y0 := f_nlt c_1; have y1 := f_nle c_2; have y2 := f_neq c_65; have y3 := f_eq c_69; have z0 := hy0; have z1 := hy1; have z2 := hy2; have z3 := hy3; have z4 := hen_64; have z5 := hen_68; have e011 : (1 : Int32).toInt = 1 := (by decide +kernel); have rw1 := addI (a := pl) (b := 1) (by omega) (by omega); have e_0 : (0 : Int32).toInt = 0 := (by decide +kernel); have b296 := Int32.toInt_lt (y88b_2); have d296 := Int32.le_toInt (y88b_2); have b297 := Int32.toInt_lt (y88b_2); have d297 := Int32.le_toInt (y88b_2); omega)), (show (5 < 6 ∨ 5 = ch) from (by have y0 := f_nlt c_1; have y1 := f_nle c_2; have y2 := f_neq c_65; have y3 := f_eq c_69; have z0 := hy0; have z1 := hy1; have z2 := hy2; have z3 := hy3; have z4 := hen_64; have z5 := hen_68; have e011 : (1 : Int32).toInt = 1 := (by decide +kernel); have rw1 := addI (a := pl) (b := 1) (by omega) (by omega); have e_0 : (0 : Int32).toInt = 0 := (by decide +kernel); omega))⟩) (by first | (rw [hM]; rfl) | rfl) (by decide) rfl) hS.2.2 dX3_readCommand_95
        · rw [if_pos c_65] at hM
          refine lv_iconst (v := 0) hx hb dX3_readCommand_94 (by decide) ?_
          refine W.widen (k := 0) (n := 0) (Nat.le_of_ble_eq_true rfl) (Nat.le_of_ble_eq_true rfl) ?_
          exact W.zret (v := 0) hx hb hr rfl (QG_.mk (fun _ => 0) (fun _ => 0) (fun _ => 0) [0, 1, 2] [0, 1] hP hD hK hS (by rw [hM]) (by rw [hM]; exact ⟨(show pl.toInt ≤ y88_2.toInt from (by have y0 := f_nlt c_1; have y1 := f_nle c_2; have y2 := f_eq c_65; have z0 := hy0; have z1 := hy1; have z2 := hy2; have z3 := hy3; have z4 := hen_64; have e011 : (1 : Int32).toInt = 1 := (by decide +kernel); have rw1 := addI (a := pl) (b := 1) (by omega) (by omega); have e_0 : (0 : Int32).toInt = 0 := (by decide +kernel); have b298 := Int32.toInt_lt (y88_2); have d298 := Int32.le_toInt (y88_2); omega)), (show (y88_2.toInt ≤ 60 ∨ y88_2.toInt = pl.toInt) from (by have y0 := f_nlt c_1; have y1 := f_nle c_2; have y2 := f_eq c_65; have z0 := hy0; have z1 := hy1; have z2 := hy2; have z3 := hy3; have z4 := hen_64; have e011 : (1 : Int32).toInt = 1 := (by decide +kernel); have rw1 := addI (a := pl) (b := 1) (by omega) (by omega); have e_0 : (0 : Int32).toInt = 0 := (by decide +kernel); have b299 := Int32.toInt_lt (y88_2); have d299 := Int32.le_toInt (y88_2); have b300 := Int32.toInt_lt (y88_2); have d300 := Int32.le_toInt (y88_2); omega)), (show (5 < 6 ∨ 5 = ch) from (by have y0 := f_nlt c_1; have y1 := f_nle c_2; have y2 := f_eq c_65; have z0 := hy0; have z1 := hy1; have z2 := hy2; have z3 := hy3; have z4 := hen_64; have e011 : (1 : Int32).toInt = 1 := (by decide +kernel); have rw1 := addI (a := pl) (b := 1) (by omega) (by omega); have e_0 : (0 : Int32).toInt = 0 := (by decide +kernel); omega))⟩) (by first | (rw [hM]; rfl) | rfl) (by decide) rfl) hS.2.2 dX3_readCommand_95
      · rw [c_4]
        rw [if_neg (show ¬ (F_X2_beginningWith (sg (ix pl))) = 0 from by rw [c_4]; decide)] at hM
        rw [if_neg (show ¬ (F_X2_beginningWith (sg (ix pl))) = 1 from by rw [c_4]; decide)] at hM
        rw [if_neg (show ¬ (F_X2_beginningWith (sg (ix pl))) = 2 from by rw [c_4]; decide)] at hM
        rw [if_neg (show ¬ (F_X2_beginningWith (sg (ix pl))) = 3 from by rw [c_4]; decide)] at hM
        rw [if_neg (show ¬ (F_X2_beginningWith (sg (ix pl))) = 4 from by rw [c_4]; decide)] at hM
        rw [if_neg (show ¬ (F_X2_beginningWith (sg (ix pl))) = 5 from by rw [c_4]; decide)] at hM
        refine W.eq (g2 := F0 m 30 ls [.null]) rfl ?_
        refine lv_goto (tgt := 34) hx hb dX3_readCommand_30 (by decide) ?_
        refine lv_astore_nN (lv' := [(1, .null), (0, .ref h_T)]) hx hb dX3_readCommand_34 rfl hl (by decide) rfl (fun ls hl => ?_)
        refine lv_aload_nN hx hb dX3_readCommand_35 rfl (lv_at hl 0 rfl) ?_
        refine lv_ifnonnullN hx hb dX3_readCommand_36 ?_
        refine lv_iconst (v := 0) hx hb dX3_readCommand_39 (by decide) ?_
        refine W.widen (k := 0) (n := 0) (Nat.le_of_ble_eq_true rfl) (Nat.le_of_ble_eq_true rfl) ?_
        exact W.zret (v := 0) hx hb hr rfl (QG_.mk (fun _ => 0) (fun _ => 0) (fun _ => 0) [0, 1, 2] [0, 1] hP hD hK hS (by rw [hM]) (by rw [hM]; exact ⟨(show pl.toInt ≤ pl.toInt from (by have y0 := f_nlt c_1; have y1 := f_nle c_2; have z0 := hy0; have z1 := hy1; have z2 := hy2; have z3 := hy3; have e011 : (1 : Int32).toInt = 1 := (by decide +kernel); have rw1 := addI (a := pl) (b := 1) (by omega) (by omega); have e_0 : (0 : Int32).toInt = 0 := (by decide +kernel); have b301 := Int32.toInt_lt (pl); have d301 := Int32.le_toInt (pl); omega)), (show (pl.toInt ≤ 60 ∨ pl.toInt = pl.toInt) from (by have y0 := f_nlt c_1; have y1 := f_nle c_2; have z0 := hy0; have z1 := hy1; have z2 := hy2; have z3 := hy3; have e011 : (1 : Int32).toInt = 1 := (by decide +kernel); have rw1 := addI (a := pl) (b := 1) (by omega) (by omega); have e_0 : (0 : Int32).toInt = 0 := (by decide +kernel); have b302 := Int32.toInt_lt (pl); have d302 := Int32.le_toInt (pl); have b303 := Int32.toInt_lt (pl); have d303 := Int32.le_toInt (pl); omega)), (show (ch < 6 ∨ ch = ch) from (by have y0 := f_nlt c_1; have y1 := f_nle c_2; have z0 := hy0; have z1 := hy1; have z2 := hy2; have z3 := hy3; have e011 : (1 : Int32).toInt = 1 := (by decide +kernel); have rw1 := addI (a := pl) (b := 1) (by omega) (by omega); have e_0 : (0 : Int32).toInt = 0 := (by decide +kernel); omega))⟩) (by first | (rw [hM]; rfl) | rfl) (by decide) rfl) hS.2.2 dX3_readCommand_40
