def F_Jx4a65c_size_8abf5 (PP : List PG) : Int32 := (nI PP.length)
set_option maxHeartbeats 4000000 in
set_option maxRecDepth 100000 in
theorem c_Jx4a65c_size_8abf5 (l : Launch) (hl0 : l.stackTraces = false) (D : va_G) (ad : Nat → Nat) (sz : Nat) (h_li : Nat) (h_li_0 : Value) (h_li_1 : Value) (PP : List PG) : Met l yJx4a65c_size_8abf5 wsJx4a65c_size_8abf5 ({ frames := 0, cells := 0, slots := 0, locals := 0 }) (PR_ D ad [(h_li, .inr (4, [h_li_0, h_li_1, .int (nI PP.length)]))] [] sz [.ref h_li]) (QR_ (.int (F_Jx4a65c_size_8abf5 PP)) (va_A [] sz)) 0 0 (va_A [] sz) := by
  refine Met.ofW (cc := cJx4a65c_size_8abf5) (maxL := 1) (ret := (some .int)) (by decide) rfl ?_
  intro p e s m args below meth c s₁ B hml hv
  obtain ⟨rfl, hsz, hP, hK, hF⟩ := hv
  have hx := B.exec
  have hb := B.bytes
  have hr := B.returns
  have hts := atoms_spec (ws := wsJx4a65c_size_8abf5) B.pre
  have hown : s.vm.findClass RJx4a65c = some m.cls := findClass_of_methodNamed B.named
  have hlocks := B.notSynchronized
  subst hsz
  generalize hAe : va_A [] s.heap.size = A at hF ⊢
  have hA : ∀ q : Nat, s.heap.size ≤ q → A q := fun q h => by rw [← hAe]; exact Or.inr h
  obtain ⟨H, hHe⟩ : ∃ H : Heap, H = s.heap := ⟨_, rfl⟩
  have hS : va_S A s.heap H [] := by rw [hHe]; exact va_S.rf
  have hP : va_P D vwCl [(h_li, .inr (4, [h_li_0, h_li_1, .int (nI PP.length)]))] H := by rw [hHe]; exact hP
  rw [← hHe]
  have hi_Jx4a65c : ∀ w ∈ wsJx4a65c0, w ∈ wsJx4a65c_size_8abf5 := by decide +kernel
  have hl := lv_entry [.ref h_li] (n := 1) (Nat.le_of_ble_eq_true rfl)
  rw [lg_entry_eq]
  generalize (lg_sl [.ref h_li] ++ List.replicate (1 - (lg_sl [.ref h_li]).length) Slot.unset).toArray = ls at hl ⊢
  have hl : lv_has ls 1 [(0, .ref h_li)] := hl
  have hM : F_Jx4a65c_size_8abf5 PP = (nI PP.length) := rfl
  refine lv_aload_n hx hb dJx4a65c_size_8abf5_0 rfl (lv_at hl 0 rfl) ?_
  refine va_get (D := D) (ci := 4) (v := .int (nI PP.length)) (own := RJx4a65c) (C := RJx4a65c) (T := TJx4a65c) (N := 3) hx hb hts hi_Jx4a65c hown hK hP 0 rfl rfl 2 (by decide) (hts (.fieldLink RJx4a65c 48 "java/util/ArrayList" "size" "I") (List.mem_of_getElem? (i := 1) (by decide +kernel))) (fun _ h9 => h9) rfl dJx4a65c_size_8abf5_1 ?_
  refine W.widen (k := 0) (n := 0) (Nat.le_of_ble_eq_true rfl) (Nat.le_of_ble_eq_true rfl) ?_
  exact W.iret (v := (nI PP.length)) hx hb hr (QR_.mk hS (by rw [hM])) hS.2.2 dJx4a65c_size_8abf5_4
def F_J3_checkIndex_8e157 (a1 : Int32) : Int32 := a1
set_option maxHeartbeats 4000000 in
set_option maxRecDepth 100000 in
theorem c_J3_checkIndex_8e157 (l : Launch) (hl0 : l.stackTraces = false) (D : va_G) (ad : Nat → Nat) (sz : Nat) (a1 : Int32) (a2 : Int32) (hy0 : 0 ≤ a1.toInt) (hy1 : a1.toInt < a2.toInt) : Met l yJ3_checkIndex_8e157 wsJ3_checkIndex_8e157 ({ frames := 0, cells := 0, slots := 0, locals := 0 }) (PR_ D ad [] [] sz [.int a1, .int a2, .null]) (QR_ (.int (F_J3_checkIndex_8e157 a1)) (va_A [] sz)) 0 0 (va_A [] sz) := by
  refine Met.ofW (cc := cJ3_checkIndex_8e157) (maxL := 3) (ret := (some .int)) (by decide) rfl ?_
  intro p e s m args below meth c s₁ B hml hv
  obtain ⟨rfl, hsz, hP, hK, hF⟩ := hv
  have hx := B.exec
  have hb := B.bytes
  have hr := B.returns
  have hts := atoms_spec (ws := wsJ3_checkIndex_8e157) B.pre
  have hown : s.vm.findClass RJ3 = some m.cls := findClass_of_methodNamed B.named
  have hlocks := B.notSynchronized
  subst hsz
  generalize hAe : va_A [] s.heap.size = A at hF ⊢
  have hA : ∀ q : Nat, s.heap.size ≤ q → A q := fun q h => by rw [← hAe]; exact Or.inr h
  obtain ⟨H, hHe⟩ : ∃ H : Heap, H = s.heap := ⟨_, rfl⟩
  have hS : va_S A s.heap H [] := by rw [hHe]; exact va_S.rf
  have hP : va_P D vwCl [] H := by rw [hHe]; exact hP
  rw [← hHe]
  have hl := lv_entry [.int a1, .int a2, .null] (n := 3) (Nat.le_of_ble_eq_true rfl)
  rw [lg_entry_eq]
  generalize (lg_sl [.int a1, .int a2, .null] ++ List.replicate (3 - (lg_sl [.int a1, .int a2, .null]).length) Slot.unset).toArray = ls at hl ⊢
  have hl : lv_has ls 3 [(0, .int a1), (1, .int a2), (2, .null)] := hl
  have hM : F_J3_checkIndex_8e157 a1 = a1 := rfl
  refine lv_iload_n hx hb dJ3_checkIndex_8e157_0 rfl (lv_at hl 0 rfl) ?_
  refine lv_if_lt (tgt := 9) hx hb dJ3_checkIndex_8e157_1 (by decide) (fun c9 => False.elim (by have z0 := hy0; have z1 := hy1; have y9 := f_lt c9; have l0 : (0 : Int32).toInt = 0 := (by decide +kernel); omega)) (fun c_1 => ?_)
  refine lv_iload_n hx hb dJ3_checkIndex_8e157_4 rfl (lv_at hl 0 rfl) ?_
  refine lv_iload_n hx hb dJ3_checkIndex_8e157_5 rfl (lv_at hl 1 rfl) ?_
  refine lv_icmp_lt (tgt := 16) hx hb dJ3_checkIndex_8e157_6 (by decide) (fun c_2 => ?_) (fun c9 => False.elim (by have y0 := f_nlt c_1; have z0 := hy0; have z1 := hy1; have e_0 : (0 : Int32).toInt = 0 := (by decide +kernel); have y9 := f_nlt c9; omega))
  refine lv_iload_n hx hb dJ3_checkIndex_8e157_16 rfl (lv_at hl 0 rfl) ?_
  refine W.widen (k := 0) (n := 0) (Nat.le_of_ble_eq_true rfl) (Nat.le_of_ble_eq_true rfl) ?_
  exact W.iret (v := a1) hx hb hr (QR_.mk hS (by rw [hM])) hS.2.2 dJ3_checkIndex_8e157_17
def F_J15_checkIndex_7cf53 (a1 : Int32) : Int32 := (F_J3_checkIndex_8e157 a1)
set_option maxHeartbeats 4000000 in
set_option maxRecDepth 100000 in
theorem c_J15_checkIndex_7cf53 (l : Launch) (hl0 : l.stackTraces = false) (D : va_G) (ad : Nat → Nat) (sz : Nat) (a1 : Int32) (a2 : Int32) (hy0 : 0 ≤ a1.toInt) (hy1 : a1.toInt < a2.toInt) : Met l yJ15_checkIndex_7cf53 wsJ15_checkIndex_7cf53 ({ frames := 1, cells := 0, slots := 0, locals := 24 }) (PR_ D ad [] [] sz [.int a1, .int a2]) (QR_ (.int (F_J15_checkIndex_7cf53 a1)) (va_A [] sz)) 0 0 (va_A [] sz) := by
  refine Met.ofW (cc := cJ15_checkIndex_7cf53) (maxL := 2) (ret := (some .int)) (by decide) rfl ?_
  intro p e s m args below meth c s₁ B hml hv
  obtain ⟨rfl, hsz, hP, hK, hF⟩ := hv
  have hx := B.exec
  have hb := B.bytes
  have hr := B.returns
  have hts := atoms_spec (ws := wsJ15_checkIndex_7cf53) B.pre
  have hown : s.vm.findClass RJ15 = some m.cls := findClass_of_methodNamed B.named
  have hlocks := B.notSynchronized
  subst hsz
  generalize hAe : va_A [] s.heap.size = A at hF ⊢
  have hA : ∀ q : Nat, s.heap.size ≤ q → A q := fun q h => by rw [← hAe]; exact Or.inr h
  obtain ⟨H, hHe⟩ : ∃ H : Heap, H = s.heap := ⟨_, rfl⟩
  have hS : va_S A s.heap H [] := by rw [hHe]; exact va_S.rf
  have hP : va_P D vwCl [] H := by rw [hHe]; exact hP
  rw [← hHe]
  have hl := lv_entry [.int a1, .int a2] (n := 2) (Nat.le_of_ble_eq_true rfl)
  rw [lg_entry_eq]
  generalize (lg_sl [.int a1, .int a2] ++ List.replicate (2 - (lg_sl [.int a1, .int a2]).length) Slot.unset).toArray = ls at hl ⊢
  have hl : lv_has ls 2 [(0, .int a1), (1, .int a2)] := hl
  have hM : F_J15_checkIndex_7cf53 a1 = (F_J3_checkIndex_8e157 a1) := rfl
  refine lv_iload_n hx hb dJ15_checkIndex_7cf53_0 rfl (lv_at hl 0 rfl) ?_
  refine lv_iload_n hx hb dJ15_checkIndex_7cf53_1 rfl (lv_at hl 1 rfl) ?_
  refine lv_null hx hb dJ15_checkIndex_7cf53_2 ?_
  obtain ⟨y9, hy9⟩ : ∃ y9, (F_J3_checkIndex_8e157 a1) = y9 := ⟨_, rfl⟩
  have hcon := (c_J3_checkIndex_8e157 l hl0 D ad H.size a1 a2 (by have z0 := hy0; have z1 := hy1; omega) (by have z0 := hy0; have z1 := hy1; omega))
  rw [hy9] at hcon
  refine kr_ (va_runS (As := [.int a1, .int a2, .null]) (rest := []) ⟨hx, hb, hml, hown, hts⟩ hcon (va_cwS 3 hts gJ15_checkIndex_7cf53_J3_checkIndex_8e157 rfl rfl rfl (by decide +kernel) ⟨Nat.le_of_ble_eq_true rfl, Nat.le_of_ble_eq_true rfl⟩) ⟨PR_.blind, PR_.pre hF hK (hP.sub [] rfl) hS hA [] rfl⟩ rfl rfl hl.1 rfl (lv_room (Nat.le_of_ble_eq_true rfl)) dJ15_checkIndex_7cf53_3 ⟨(Nat.le_of_ble_eq_true rfl), (Nat.le_of_ble_eq_true rfl)⟩) hP hS hA (fun H locs hP hS => ?_)
  subst hy9
  refine W.eq (g2 := F0 m 6 ls [.int (F_J3_checkIndex_8e157 a1)]) rfl ?_
  refine W.widen (k := 0) (n := 0) (Nat.le_of_ble_eq_true rfl) (Nat.le_of_ble_eq_true rfl) ?_
  exact W.iret (v := (F_J3_checkIndex_8e157 a1)) hx hb hr (QR_.mk hS (by rw [hM])) hS.2.2 dJ15_checkIndex_7cf53_6
def F_Jx4a65c_elementData_915e3 (a1 : Int32) : Nat := (ix a1)
set_option maxHeartbeats 4000000 in
set_option maxRecDepth 100000 in
theorem c_Jx4a65c_elementData_915e3 (l : Launch) (hl0 : l.stackTraces = false) (D : va_G) (ad : Nat → Nat) (sz : Nat) (h_el : Nat) (h_li : Nat) (k_el : ClassId) (h_li_0 : Value) (h_li_2 : Value) (kI : ClassId) (AL : List (Nat × Nat)) (PP : List PG) (capE : Nat) (a1 : Int32) (hlen : AL.length = PP.length) (hpos : 0 < PP.length) (hbig : PP.length ≤ 2000000) (hy0 : 0 ≤ a1.toInt) (hy1 : a1.toInt < PP.length) (hy2 : PP.length ≤ capE) : Met l yJx4a65c_elementData_915e3 wsJx4a65c_elementData_915e3 ({ frames := 0, cells := 0, slots := 0, locals := 0 }) (PR_ D ad ([(h_el, .inl (k_el, capE, .inr (.inr (.inr (.inr (egl AL)))))), (h_li, .inr (4, [h_li_0, .ref h_el, h_li_2]))] ++ pgl kI AL PP) [(k_el, .object "java/lang/Object"), (kI, .int)] sz [.ref h_li, .int a1]) (QR_ (.ref (pad AL (F_Jx4a65c_elementData_915e3 a1))) (va_A [] sz)) 0 0 (va_A [] sz) := by
  refine Met.ofW (cc := cJx4a65c_elementData_915e3) (maxL := 2) (ret := (some (.object "java/lang/Object"))) (by decide) rfl ?_
  intro p e s m args below meth c s₁ B hml hv
  obtain ⟨rfl, hsz, hP, hK, hF⟩ := hv
  have hx := B.exec
  have hb := B.bytes
  have hr := B.returns
  have hts := atoms_spec (ws := wsJx4a65c_elementData_915e3) B.pre
  have hown : s.vm.findClass RJx4a65c = some m.cls := findClass_of_methodNamed B.named
  have hlocks := B.notSynchronized
  subst hsz
  generalize hAe : va_A [] s.heap.size = A at hF ⊢
  have hA : ∀ q : Nat, s.heap.size ≤ q → A q := fun q h => by rw [← hAe]; exact Or.inr h
  obtain ⟨H, hHe⟩ : ∃ H : Heap, H = s.heap := ⟨_, rfl⟩
  have hS : va_S A s.heap H [] := by rw [hHe]; exact va_S.rf
  have hP : va_P D vwCl ([(h_el, .inl (k_el, capE, .inr (.inr (.inr (.inr (egl AL)))))), (h_li, .inr (4, [h_li_0, .ref h_el, h_li_2]))] ++ pgl kI AL PP) H := by rw [hHe]; exact hP
  rw [← hHe]
  have hi_Jx4a65c : ∀ w ∈ wsJx4a65c0, w ∈ wsJx4a65c_elementData_915e3 := by decide +kernel
  have hl := lv_entry [.ref h_li, .int a1] (n := 2) (Nat.le_of_ble_eq_true rfl)
  rw [lg_entry_eq]
  generalize (lg_sl [.ref h_li, .int a1] ++ List.replicate (2 - (lg_sl [.ref h_li, .int a1]).length) Slot.unset).toArray = ls at hl ⊢
  have hl : lv_has ls 2 [(0, .ref h_li), (1, .int a1)] := hl
  have hM : F_Jx4a65c_elementData_915e3 a1 = (ix a1) := rfl
  refine lv_aload_n hx hb dJx4a65c_elementData_915e3_0 rfl (lv_at hl 0 rfl) ?_
  refine va_get (D := D) (ci := 4) (v := .ref h_el) (own := RJx4a65c) (C := RJx4a65c) (T := TJx4a65c) (N := 3) hx hb hts hi_Jx4a65c hown hK hP 1 rfl rfl 1 (by decide) (hts (.fieldLink RJx4a65c 9 "java/util/ArrayList" "elementData" "[Ljava/lang/Object;") (List.mem_of_getElem? (i := 1) (by decide +kernel))) (fun _ h9 => h9) rfl dJx4a65c_elementData_915e3_1 ?_
  refine lv_iload_n hx hb dJx4a65c_elementData_915e3_4 rfl (lv_at hl 1 rfl) ?_
  refine va_aldq hx hb hK hP 0 0 rfl rfl (vinI (by have z0 := hy0; have z1 := hy1; have z2 := hy2; have b4 := Int32.toInt_lt (a1); have d4 := Int32.le_toInt (a1); have q_len := hlen; have q_pos := hpos; have q_big := hbig; have q_n := nI_toInt (n := PP.length) (by omega); omega) (by have z0 := hy0; have z1 := hy1; have z2 := hy2; have b4 := Int32.toInt_lt (a1); have d4 := Int32.le_toInt (a1); have q_len := hlen; have q_pos := hpos; have q_big := hbig; have q_n := nI_toInt (n := PP.length) (by omega); omega)) dJx4a65c_elementData_915e3_5 ?_
  refine kq_ (egl_get (k := (ix a1)) (by have z0 := hy0; have z1 := hy1; have z2 := hy2; have x0 := ix_toNat a1; have q_len := hlen; have q_pos := hpos; have q_big := hbig; have q_n := nI_toInt (n := PP.length) (by omega); omega)) ?_
  refine W.eq (g2 := F0 m 6 ls [.ref (pad AL (ix a1))]) rfl ?_
  refine W.widen (k := 0) (n := 0) (Nat.le_of_ble_eq_true rfl) (Nat.le_of_ble_eq_true rfl) ?_
  exact W.aret (v := .ref (pad AL (ix a1))) hx hb hr (Or.inl ⟨_, rfl⟩) (Or.inr ⟨_, rfl⟩) (QR_.mk hS (by rw [hM])) hS.2.2 dJx4a65c_elementData_915e3_6
def F_Jx4a65c_get_915e3 (a1 : Int32) : Nat := (F_Jx4a65c_elementData_915e3 a1)
set_option maxHeartbeats 4000000 in
set_option maxRecDepth 100000 in
theorem c_Jx4a65c_get_915e3 (l : Launch) (hl0 : l.stackTraces = false) (D : va_G) (ad : Nat → Nat) (sz : Nat) (h_el : Nat) (h_li : Nat) (k_el : ClassId) (h_li_0 : Value) (kI : ClassId) (AL : List (Nat × Nat)) (PP : List PG) (capE : Nat) (a1 : Int32) (hlen : AL.length = PP.length) (hpos : 0 < PP.length) (hbig : PP.length ≤ 2000000) (hy0 : 0 ≤ a1.toInt) (hy1 : a1.toInt < PP.length) (hy2 : PP.length ≤ capE) : Met l yJx4a65c_get_915e3 wsJx4a65c_get_915e3 ({ frames := 2, cells := 0, slots := 0, locals := 47 }) (PR_ D ad ([(h_el, .inl (k_el, capE, .inr (.inr (.inr (.inr (egl AL)))))), (h_li, .inr (4, [h_li_0, .ref h_el, .int (nI PP.length)]))] ++ pgl kI AL PP) [(k_el, .object "java/lang/Object"), (kI, .int)] sz [.ref h_li, .int a1]) (QR_ (.ref (pad AL (F_Jx4a65c_get_915e3 a1))) (va_A [] sz)) 0 0 (va_A [] sz) := by
  refine Met.ofW (cc := cJx4a65c_get_915e3) (maxL := 2) (ret := (some (.object "java/lang/Object"))) (by decide) rfl ?_
  intro p e s m args below meth c s₁ B hml hv
  obtain ⟨rfl, hsz, hP, hK, hF⟩ := hv
  have hx := B.exec
  have hb := B.bytes
  have hr := B.returns
  have hts := atoms_spec (ws := wsJx4a65c_get_915e3) B.pre
  have hown : s.vm.findClass RJx4a65c = some m.cls := findClass_of_methodNamed B.named
  have hlocks := B.notSynchronized
  subst hsz
  generalize hAe : va_A [] s.heap.size = A at hF ⊢
  have hA : ∀ q : Nat, s.heap.size ≤ q → A q := fun q h => by rw [← hAe]; exact Or.inr h
  obtain ⟨H, hHe⟩ : ∃ H : Heap, H = s.heap := ⟨_, rfl⟩
  have hS : va_S A s.heap H [] := by rw [hHe]; exact va_S.rf
  have hP : va_P D vwCl ([(h_el, .inl (k_el, capE, .inr (.inr (.inr (.inr (egl AL)))))), (h_li, .inr (4, [h_li_0, .ref h_el, .int (nI PP.length)]))] ++ pgl kI AL PP) H := by rw [hHe]; exact hP
  rw [← hHe]
  have hi_Jx4a65c : ∀ w ∈ wsJx4a65c0, w ∈ wsJx4a65c_get_915e3 := by decide +kernel
  have hl := lv_entry [.ref h_li, .int a1] (n := 2) (Nat.le_of_ble_eq_true rfl)
  rw [lg_entry_eq]
  generalize (lg_sl [.ref h_li, .int a1] ++ List.replicate (2 - (lg_sl [.ref h_li, .int a1]).length) Slot.unset).toArray = ls at hl ⊢
  have hl : lv_has ls 2 [(0, .ref h_li), (1, .int a1)] := hl
  have hM : F_Jx4a65c_get_915e3 a1 = (F_Jx4a65c_elementData_915e3 a1) := rfl
  refine lv_iload_n hx hb dJx4a65c_get_915e3_0 rfl (lv_at hl 1 rfl) ?_
  refine lv_aload_n hx hb dJx4a65c_get_915e3_1 rfl (lv_at hl 0 rfl) ?_
  refine va_get (D := D) (ci := 4) (v := .int (nI PP.length)) (own := RJx4a65c) (C := RJx4a65c) (T := TJx4a65c) (N := 3) hx hb hts hi_Jx4a65c hown hK hP 1 rfl rfl 2 (by decide) (hts (.fieldLink RJx4a65c 48 "java/util/ArrayList" "size" "I") (List.mem_of_getElem? (i := 1) (by decide +kernel))) (fun _ h9 => h9) rfl dJx4a65c_get_915e3_2 ?_
  obtain ⟨y9, hy9⟩ : ∃ y9, (F_J15_checkIndex_7cf53 a1) = y9 := ⟨_, rfl⟩
  have hcon := (c_J15_checkIndex_7cf53 l hl0 D ad H.size a1 (nI PP.length) (by have z0 := hy0; have z1 := hy1; have z2 := hy2; have q_len := hlen; have q_pos := hpos; have q_big := hbig; have q_n := nI_toInt (n := PP.length) (by omega); omega) (by have z0 := hy0; have z1 := hy1; have z2 := hy2; have q_len := hlen; have q_pos := hpos; have q_big := hbig; have q_n := nI_toInt (n := PP.length) (by omega); have q4 := nI_toInt (n := PP.length) (by omega); omega))
  rw [hy9] at hcon
  refine kr_ (va_runS (As := [.int a1, .int (nI PP.length)]) (rest := []) ⟨hx, hb, hml, hown, hts⟩ hcon (va_cwS 2 hts gJx4a65c_get_915e3_J15_checkIndex_7cf53 rfl rfl rfl (by decide +kernel) ⟨Nat.le_of_ble_eq_true rfl, Nat.le_of_ble_eq_true rfl⟩) ⟨PR_.blind, PR_.pre hF hK (hP.sub [] rfl) hS hA [] rfl⟩ rfl rfl hl.1 rfl (lv_room (Nat.le_of_ble_eq_true rfl)) dJx4a65c_get_915e3_5 ⟨(Nat.le_of_ble_eq_true rfl), (Nat.le_of_ble_eq_true rfl)⟩) hP hS hA (fun H locs hP hS => ?_)
  subst hy9
  refine W.eq (g2 := F0 m 8 ls [.int (F_J15_checkIndex_7cf53 a1)]) rfl ?_
  refine lv_pop hx hb dJx4a65c_get_915e3_8 rfl ?_
  refine lv_aload_n hx hb dJx4a65c_get_915e3_9 rfl (lv_at hl 0 rfl) ?_
  refine lv_iload_n hx hb dJx4a65c_get_915e3_10 rfl (lv_at hl 1 rfl) ?_
  obtain ⟨y9, hy9⟩ : ∃ y9, (F_Jx4a65c_elementData_915e3 a1) = y9 := ⟨_, rfl⟩
  have hcon := (c_Jx4a65c_elementData_915e3 l hl0 D ad H.size h_el h_li k_el (h_li_0) (.int (nI PP.length)) kI AL PP capE a1 hlen hpos hbig (by have z0 := hy0; have z1 := hy1; have z2 := hy2; have q_len := hlen; have q_pos := hpos; have q_big := hbig; have q_n := nI_toInt (n := PP.length) (by omega); omega) (by have z0 := hy0; have z1 := hy1; have z2 := hy2; have q_len := hlen; have q_pos := hpos; have q_big := hbig; have q_n := nI_toInt (n := PP.length) (by omega); omega) (by have z0 := hy0; have z1 := hy1; have z2 := hy2; have q_len := hlen; have q_pos := hpos; have q_big := hbig; have q_n := nI_toInt (n := PP.length) (by omega); omega))
  rw [hy9] at hcon
  refine kr_ (va_runV (As := [.int a1]) (rest := []) ⟨hx, hb, hml, hown, hts⟩ hcon (cwV 1 hts gJx4a65c_get_915e3_Jx4a65c_elementData_915e3 rfl rfl rfl (by decide +kernel) ⟨Nat.le_of_ble_eq_true rfl, Nat.le_of_ble_eq_true rfl⟩) ⟨PR_.blind, va_recv hK hP (ci := 4) (q0 := 1) rfl rfl, PR_.pre hF hK (hP.part [0, 1] rfl) hS hA [0, 1] rfl⟩ rfl rfl hl.1 rfl (lv_room (Nat.le_of_ble_eq_true rfl)) dJx4a65c_get_915e3_11 ⟨(Nat.le_of_ble_eq_true rfl), (Nat.le_of_ble_eq_true rfl)⟩) hP hS hA (fun H locs hP hS => ?_)
  subst hy9
  refine W.eq (g2 := F0 m 14 ls [.ref (pad AL (F_Jx4a65c_elementData_915e3 a1))]) rfl ?_
  refine W.widen (k := 0) (n := 0) (Nat.le_of_ble_eq_true rfl) (Nat.le_of_ble_eq_true rfl) ?_
  exact W.aret (v := .ref (pad AL (F_Jx4a65c_elementData_915e3 a1))) hx hb hr (Or.inl ⟨_, rfl⟩) (Or.inr ⟨_, rfl⟩) (QR_.mk hS (by rw [hM])) hS.2.2 dJx4a65c_get_915e3_14
def F_X1_numbered (PP : List PG) (a1 : Int32) : Nat := (if a1 < 0 then 0 else (if (F_Jx4a65c_size_8abf5 PP) ≤ a1 then 0 else (F_Jx4a65c_get_915e3 a1)))
theorem R_X1_numbered (PP : List PG) (a : Int32) (hpos : 0 < PP.length) (hbig : PP.length ≤ 2000000) : F_X1_numbered PP a < PP.length := by
  have e0 : (0 : Int32).toInt = 0 := by decide +kernel
  have en := nI_toInt (n := PP.length) (by omega)
  unfold F_X1_numbered
  by_cases c1 : a < 0
  · rw [if_pos c1]; exact hpos
  rw [if_neg c1]
  by_cases c2 : F_Jx4a65c_size_8abf5 PP ≤ a
  · rw [if_pos c2]; exact hpos
  rw [if_neg c2]
  have y1 := f_nlt c1
  have y2 := f_nle c2
  have y3 : (F_Jx4a65c_size_8abf5 PP).toInt = PP.length := en
  show ix a < PP.length
  rw [ix_toNat]
  omega
set_option maxHeartbeats 4000000 in
set_option maxRecDepth 100000 in
theorem c_X1_numbered (l : Launch) (hl0 : l.stackTraces = false) (D : va_G) (ad : Nat → Nat) (sz : Nat) (h_el : Nat) (h_li : Nat) (h_A : Nat) (k_el : ClassId) (h_li_0 : Value) (kI : ClassId) (AL : List (Nat × Nat)) (PP : List PG) (capE : Nat) (a1 : Int32) (hlen : AL.length = PP.length) (hpos : 0 < PP.length) (hbig : PP.length ≤ 2000000) (hy0 : PP.length ≤ capE) : Met l yX1_numbered wsX1_numbered ({ frames := 3, cells := 0, slots := 0, locals := 70 }) (PR_ D ad ([(h_el, .inl (k_el, capE, .inr (.inr (.inr (.inr (egl AL)))))), (h_li, .inr (4, [h_li_0, .ref h_el, .int (nI PP.length)])), (h_A, .inr (5, [.ref h_li, .ref (pad AL 0)]))] ++ pgl kI AL PP) [(k_el, .object "java/lang/Object"), (kI, .int)] sz [.ref h_A, .int a1]) (QR_ (.ref (pad AL (F_X1_numbered PP a1))) (va_A [] sz)) 0 0 (va_A [] sz) := by
  refine Met.ofW (cc := cX1_numbered) (maxL := 2) (ret := (some (.object "CanalMaps$Page"))) (by decide) rfl ?_
  intro p e s m args below meth c s₁ B hml hv
  obtain ⟨rfl, hsz, hP, hK, hF⟩ := hv
  have hx := B.exec
  have hb := B.bytes
  have hr := B.returns
  have hts := atoms_spec (ws := wsX1_numbered) B.pre
  have hown : s.vm.findClass RX1 = some m.cls := findClass_of_methodNamed B.named
  have hlocks := B.notSynchronized
  subst hsz
  generalize hAe : va_A [] s.heap.size = A at hF ⊢
  have hA : ∀ q : Nat, s.heap.size ≤ q → A q := fun q h => by rw [← hAe]; exact Or.inr h
  obtain ⟨H, hHe⟩ : ∃ H : Heap, H = s.heap := ⟨_, rfl⟩
  have hS : va_S A s.heap H [] := by rw [hHe]; exact va_S.rf
  have hP : va_P D vwCl ([(h_el, .inl (k_el, capE, .inr (.inr (.inr (.inr (egl AL)))))), (h_li, .inr (4, [h_li_0, .ref h_el, .int (nI PP.length)])), (h_A, .inr (5, [.ref h_li, .ref (pad AL 0)]))] ++ pgl kI AL PP) H := by rw [hHe]; exact hP
  rw [← hHe]
  have hi_X1 : ∀ w ∈ wsX10, w ∈ wsX1_numbered := by decide +kernel
  have hl := lv_entry [.ref h_A, .int a1] (n := 2) (Nat.le_of_ble_eq_true rfl)
  rw [lg_entry_eq]
  generalize (lg_sl [.ref h_A, .int a1] ++ List.replicate (2 - (lg_sl [.ref h_A, .int a1]).length) Slot.unset).toArray = ls at hl ⊢
  have hl : lv_has ls 2 [(0, .ref h_A), (1, .int a1)] := hl
  have hM : F_X1_numbered PP a1 = (if a1 < 0 then 0 else (if (F_Jx4a65c_size_8abf5 PP) ≤ a1 then 0 else (F_Jx4a65c_get_915e3 a1))) := rfl
  refine lv_iload_n hx hb dX1_numbered_0 rfl (lv_at hl 1 rfl) ?_
  refine lv_if_lt (tgt := 29) hx hb dX1_numbered_1 (by decide) (fun c_1 => ?_) (fun c_1 => ?_)
  · rw [if_pos c_1] at hM
    refine lv_aload_n hx hb dX1_numbered_29 rfl (lv_at hl 0 rfl) ?_
    refine va_get (D := D) (ci := 5) (v := .ref (pad AL 0)) (own := RX1) (C := RX1) (T := TX1) (N := 2) hx hb hts hi_X1 hown hK hP 2 rfl rfl 1 (by decide) (hts (.fieldLink RX1 23 "CanalMaps$Archive" "blank" "LCanalMaps$Page;") (List.mem_of_getElem? (i := 3) (by decide +kernel))) (fun _ h9 => h9) rfl dX1_numbered_30 ?_
    refine W.widen (k := 0) (n := 0) (Nat.le_of_ble_eq_true rfl) (Nat.le_of_ble_eq_true rfl) ?_
    exact W.aret (v := .ref (pad AL 0)) hx hb hr (Or.inl ⟨_, rfl⟩) (Or.inr ⟨_, rfl⟩) (QR_.mk hS (by rw [hM])) hS.2.2 dX1_numbered_33
  · rw [if_neg c_1] at hM
    refine lv_iload_n hx hb dX1_numbered_4 rfl (lv_at hl 1 rfl) ?_
    refine lv_aload_n hx hb dX1_numbered_5 rfl (lv_at hl 0 rfl) ?_
    refine va_get (D := D) (ci := 5) (v := .ref h_li) (own := RX1) (C := RX1) (T := TX1) (N := 2) hx hb hts hi_X1 hown hK hP 2 rfl rfl 0 (by decide) (hts (.fieldLink RX1 12 "CanalMaps$Archive" "pages" "Ljava/util/ArrayList;") (List.mem_of_getElem? (i := 1) (by decide +kernel))) (fun _ h9 => h9) rfl dX1_numbered_6 ?_
    obtain ⟨y9, hy9⟩ : ∃ y9, (F_Jx4a65c_size_8abf5 PP) = y9 := ⟨_, rfl⟩
    have hcon := (c_Jx4a65c_size_8abf5 l hl0 D ad H.size h_li (h_li_0) (.ref h_el) PP)
    rw [hy9] at hcon
    refine kr_ (va_runV (As := []) (rest := [.int a1]) ⟨hx, hb, hml, hown, hts⟩ hcon (cwV 0 hts gX1_numbered_Jx4a65c_size_8abf5 rfl rfl rfl (by decide +kernel) ⟨Nat.le_of_ble_eq_true rfl, Nat.le_of_ble_eq_true rfl⟩) ⟨PR_.blind, va_recv hK hP (ci := 4) (q0 := 1) rfl rfl, PR_.pre hF hK (hP.sub [1] rfl) hS hA [] rfl⟩ rfl rfl hl.1 rfl (lv_room (Nat.le_of_ble_eq_true rfl)) dX1_numbered_9 ⟨(Nat.le_of_ble_eq_true rfl), (Nat.le_of_ble_eq_true rfl)⟩) hP hS hA (fun H locs hP hS => ?_)
    subst hy9
    refine W.eq (g2 := F0 m 12 ls [.int (F_Jx4a65c_size_8abf5 PP), .int a1]) rfl ?_
    refine lv_icmp_ge (tgt := 29) hx hb dX1_numbered_12 (by decide) (fun c_3 => ?_) (fun c_3 => ?_)
    · rw [if_pos c_3] at hM
      refine lv_aload_n hx hb dX1_numbered_29 rfl (lv_at hl 0 rfl) ?_
      refine va_get (D := D) (ci := 5) (v := .ref (pad AL 0)) (own := RX1) (C := RX1) (T := TX1) (N := 2) hx hb hts hi_X1 hown hK hP 2 rfl rfl 1 (by decide) (hts (.fieldLink RX1 23 "CanalMaps$Archive" "blank" "LCanalMaps$Page;") (List.mem_of_getElem? (i := 3) (by decide +kernel))) (fun _ h9 => h9) rfl dX1_numbered_30 ?_
      refine W.widen (k := 0) (n := 0) (Nat.le_of_ble_eq_true rfl) (Nat.le_of_ble_eq_true rfl) ?_
      exact W.aret (v := .ref (pad AL 0)) hx hb hr (Or.inl ⟨_, rfl⟩) (Or.inr ⟨_, rfl⟩) (QR_.mk hS (by rw [hM])) hS.2.2 dX1_numbered_33
    · rw [if_neg c_3] at hM
      refine lv_aload_n hx hb dX1_numbered_15 rfl (lv_at hl 0 rfl) ?_
      refine va_get (D := D) (ci := 5) (v := .ref h_li) (own := RX1) (C := RX1) (T := TX1) (N := 2) hx hb hts hi_X1 hown hK hP 2 rfl rfl 0 (by decide) (hts (.fieldLink RX1 12 "CanalMaps$Archive" "pages" "Ljava/util/ArrayList;") (List.mem_of_getElem? (i := 1) (by decide +kernel))) (fun _ h9 => h9) rfl dX1_numbered_16 ?_
      refine lv_iload_n hx hb dX1_numbered_19 rfl (lv_at hl 1 rfl) ?_
      obtain ⟨y9, hy9⟩ : ∃ y9, (F_Jx4a65c_get_915e3 a1) = y9 := ⟨_, rfl⟩
      have hcon := (c_Jx4a65c_get_915e3 l hl0 D ad H.size h_el h_li k_el (h_li_0) kI AL PP capE a1 hlen hpos hbig (by have y0 := f_nlt c_1; have y1 := f_nle c_3; have z0 := hy0; have e_0 : (0 : Int32).toInt = 0 := (by decide +kernel); have rs1 : (F_Jx4a65c_size_8abf5 PP).toInt = (nI PP.length).toInt := rfl; have q_len := hlen; have q_pos := hpos; have q_big := hbig; have q_n := nI_toInt (n := PP.length) (by omega); omega) (by have y0 := f_nlt c_1; have y1 := f_nle c_3; have z0 := hy0; have e_0 : (0 : Int32).toInt = 0 := (by decide +kernel); have rs1 : (F_Jx4a65c_size_8abf5 PP).toInt = (nI PP.length).toInt := rfl; have q_len := hlen; have q_pos := hpos; have q_big := hbig; have q_n := nI_toInt (n := PP.length) (by omega); omega) (by have y0 := f_nlt c_1; have y1 := f_nle c_3; have z0 := hy0; have e_0 : (0 : Int32).toInt = 0 := (by decide +kernel); have rs1 : (F_Jx4a65c_size_8abf5 PP).toInt = (nI PP.length).toInt := rfl; have q_len := hlen; have q_pos := hpos; have q_big := hbig; have q_n := nI_toInt (n := PP.length) (by omega); omega))
      rw [hy9] at hcon
      refine kr_ (va_runV (As := [.int a1]) (rest := []) ⟨hx, hb, hml, hown, hts⟩ hcon (cwV 1 hts gX1_numbered_Jx4a65c_get_915e3 rfl rfl rfl (by decide +kernel) ⟨Nat.le_of_ble_eq_true rfl, Nat.le_of_ble_eq_true rfl⟩) ⟨PR_.blind, va_recv hK hP (ci := 4) (q0 := 1) rfl rfl, PR_.pre hF hK (hP.part [0, 1] rfl) hS hA [0, 1] rfl⟩ rfl rfl hl.1 rfl (lv_room (Nat.le_of_ble_eq_true rfl)) dX1_numbered_20 ⟨(Nat.le_of_ble_eq_true rfl), (Nat.le_of_ble_eq_true rfl)⟩) hP hS hA (fun H locs hP hS => ?_)
      subst hy9
      refine W.eq (g2 := F0 m 23 ls [.ref (pad AL (F_Jx4a65c_get_915e3 a1))]) rfl ?_
      have hPg := pgw (k := (F_Jx4a65c_get_915e3 a1)) hP hlen (by have y0 := f_nlt c_1; have y1 := f_nle c_3; have z0 := hy0; have e_0 : (0 : Int32).toInt = 0 := (by decide +kernel); have rs1 : (F_Jx4a65c_size_8abf5 PP).toInt = (nI PP.length).toInt := rfl; have rg1 : (F_Jx4a65c_get_915e3 a1) = ix a1 := rfl; have rg2 := ix_toNat a1; have q_len := hlen; have q_pos := hpos; have q_big := hbig; have q_n := nI_toInt (n := PP.length) (by omega); omega)
      refine va_castS (own := RX1) (nm := "CanalMaps$Page") hx hb hown (hts (.classLink RX1 18 "CanalMaps$Page") (List.mem_of_getElem? (i := 2) (by decide +kernel))) (hK.1 9 _ rfl).2 (va_recv hK hPg (ci := 9) (q0 := 0) rfl rfl) dX1_numbered_23 ?_
      refine lv_goto (tgt := 33) hx hb dX1_numbered_26 (by decide) ?_
      refine W.widen (k := 0) (n := 0) (Nat.le_of_ble_eq_true rfl) (Nat.le_of_ble_eq_true rfl) ?_
      exact W.aret (v := .ref (pad AL (F_Jx4a65c_get_915e3 a1))) hx hb hr (Or.inl ⟨_, rfl⟩) (Or.inr ⟨_, rfl⟩) (QR_.mk hS (by rw [hM])) hS.2.2 dX1_numbered_33
def F_X8_pageIn (PP : List PG) (mp : Nat → Int32) (a1 : Int32) (a2 : Int32) : Nat := (F_X1_numbered PP (mp (ix (F_X8_pair a1 a2))))
theorem R_X8_pageIn (PP : List PG) (mp : Nat → Int32) (a b : Int32) (hpos : 0 < PP.length) (hbig : PP.length ≤ 2000000) : F_X8_pageIn PP mp a b < PP.length := R_X1_numbered PP _ hpos hbig
set_option maxHeartbeats 4000000 in
set_option maxRecDepth 100000 in
theorem c_X8_pageIn (l : Launch) (hl0 : l.stackTraces = false) (D : va_G) (ad : Nat → Nat) (sz : Nat) (h_el : Nat) (h_li : Nat) (h_A : Nat) (h_mp : Nat) (h_S : Nat) (k_el : ClassId) (k_mp : ClassId) (h_li_0 : Value) (h_S_1 : Value) (h_S_2 : Value) (h_S_4 : Value) (h_S_5 : Value) (h_S_6 : Value) (h_S_7 : Value) (h_S_8 : Value) (h_S_9 : Value) (kI : ClassId) (AL : List (Nat × Nat)) (PP : List PG) (capE : Nat) (mp : Nat → Int32) (a1 : Int32) (a2 : Int32) (hlen : AL.length = PP.length) (hpos : 0 < PP.length) (hbig : PP.length ≤ 2000000) (hy1 : PP.length ≤ capE) : Met l yX8_pageIn wsX8_pageIn ({ frames := 4, cells := 0, slots := 0, locals := 93 }) (PR_ D ad ([(h_el, .inl (k_el, capE, .inr (.inr (.inr (.inr (egl AL)))))), (h_li, .inr (4, [h_li_0, .ref h_el, .int (nI PP.length)])), (h_A, .inr (5, [.ref h_li, .ref (pad AL 0)])), (h_mp, .inl (k_mp, 36, .inl mp)), (h_S, .inr (11, [.ref h_A, h_S_1, h_S_2, .ref h_mp, h_S_4, h_S_5, h_S_6, h_S_7, h_S_8, h_S_9]))] ++ pgl kI AL PP) [(k_el, .object "java/lang/Object"), (k_mp, .int), (kI, .int)] sz [.ref h_S, .int a1, .int a2]) (QR_ (.ref (pad AL (F_X8_pageIn PP mp a1 a2))) (va_A [] sz)) 0 0 (va_A [] sz) := by
  refine Met.ofW (cc := cX8_pageIn) (maxL := 3) (ret := (some (.object "CanalMaps$Page"))) (by decide) rfl ?_
  intro p e s m args below meth c s₁ B hml hv
  obtain ⟨rfl, hsz, hP, hK, hF⟩ := hv
  have hx := B.exec
  have hb := B.bytes
  have hr := B.returns
  have hts := atoms_spec (ws := wsX8_pageIn) B.pre
  have hown : s.vm.findClass RX8 = some m.cls := findClass_of_methodNamed B.named
  have hlocks := B.notSynchronized
  subst hsz
  generalize hAe : va_A [] s.heap.size = A at hF ⊢
  have hA : ∀ q : Nat, s.heap.size ≤ q → A q := fun q h => by rw [← hAe]; exact Or.inr h
  obtain ⟨H, hHe⟩ : ∃ H : Heap, H = s.heap := ⟨_, rfl⟩
  have hS : va_S A s.heap H [] := by rw [hHe]; exact va_S.rf
  have hP : va_P D vwCl ([(h_el, .inl (k_el, capE, .inr (.inr (.inr (.inr (egl AL)))))), (h_li, .inr (4, [h_li_0, .ref h_el, .int (nI PP.length)])), (h_A, .inr (5, [.ref h_li, .ref (pad AL 0)])), (h_mp, .inl (k_mp, 36, .inl mp)), (h_S, .inr (11, [.ref h_A, h_S_1, h_S_2, .ref h_mp, h_S_4, h_S_5, h_S_6, h_S_7, h_S_8, h_S_9]))] ++ pgl kI AL PP) H := by rw [hHe]; exact hP
  rw [← hHe]
  have hi_X8 : ∀ w ∈ wsX80, w ∈ wsX8_pageIn := by decide +kernel
  have hl := lv_entry [.ref h_S, .int a1, .int a2] (n := 3) (Nat.le_of_ble_eq_true rfl)
  rw [lg_entry_eq]
  generalize (lg_sl [.ref h_S, .int a1, .int a2] ++ List.replicate (3 - (lg_sl [.ref h_S, .int a1, .int a2]).length) Slot.unset).toArray = ls at hl ⊢
  have hl : lv_has ls 3 [(0, .ref h_S), (1, .int a1), (2, .int a2)] := hl
  have hM : F_X8_pageIn PP mp a1 a2 = (F_X1_numbered PP (mp (ix (F_X8_pair a1 a2)))) := rfl
  refine lv_aload_n hx hb dX8_pageIn_0 rfl (lv_at hl 0 rfl) ?_
  refine va_get (D := D) (ci := 11) (v := .ref h_A) (own := RX8) (C := RX8) (T := TX8) (N := 10) hx hb hts hi_X8 hown hK hP 4 rfl rfl 0 (by decide) (hts (.fieldLink RX8 44 "CanalMaps$Survey" "archive" "LCanalMaps$Archive;") (List.mem_of_getElem? (i := 1) (by decide +kernel))) (fun _ h9 => h9) rfl dX8_pageIn_1 ?_
  refine lv_aload_n hx hb dX8_pageIn_4 rfl (lv_at hl 0 rfl) ?_
  refine va_get (D := D) (ci := 11) (v := .ref h_mp) (own := RX8) (C := RX8) (T := TX8) (N := 10) hx hb hts hi_X8 hown hK hP 4 rfl rfl 3 (by decide) (hts (.fieldLink RX8 18 "CanalMaps$Survey" "maps" "[I") (List.mem_of_getElem? (i := 2) (by decide +kernel))) (fun _ h9 => h9) rfl dX8_pageIn_5 ?_
  refine lv_iload_n hx hb dX8_pageIn_8 rfl (lv_at hl 1 rfl) ?_
  refine lv_iload_n hx hb dX8_pageIn_9 rfl (lv_at hl 2 rfl) ?_
  obtain ⟨y9, hy9⟩ : ∃ y9, (F_X8_pair a1 a2) = y9 := ⟨_, rfl⟩
  have hcon := (c_X8_pair l hl0 D ad H.size a1 a2)
  rw [hy9] at hcon
  refine kr_ (va_runS (As := [.int a1, .int a2]) (rest := [.ref h_mp, .ref h_A]) ⟨hx, hb, hml, hown, hts⟩ hcon (va_cwS 2 hts gX8_pageIn_X8_pair rfl rfl rfl (by decide +kernel) ⟨Nat.le_of_ble_eq_true rfl, Nat.le_of_ble_eq_true rfl⟩) ⟨PR_.blind, PR_.pre hF hK (hP.sub [] rfl) hS hA [] rfl⟩ rfl rfl hl.1 rfl (lv_room (Nat.le_of_ble_eq_true rfl)) dX8_pageIn_10 ⟨(Nat.le_of_ble_eq_true rfl), (Nat.le_of_ble_eq_true rfl)⟩) hP hS hA (fun H locs hP hS => ?_)
  subst hy9
  refine W.eq (g2 := F0 m 13 ls [.int (F_X8_pair a1 a2), .ref h_mp, .ref h_A]) rfl ?_
  refine va_iald hx hb hK hP 3 1 rfl rfl (vinI (by have z0 := hy1; have rp1 := R_X8_pair a1 a2; have b4 := Int32.toInt_lt (F_X8_pair a1 a2); have d4 := Int32.le_toInt (F_X8_pair a1 a2); have q_len := hlen; have q_pos := hpos; have q_big := hbig; have q_n := nI_toInt (n := PP.length) (by omega); omega) (by have z0 := hy1; have rp1 := R_X8_pair a1 a2; have b4 := Int32.toInt_lt (F_X8_pair a1 a2); have d4 := Int32.le_toInt (F_X8_pair a1 a2); have q_len := hlen; have q_pos := hpos; have q_big := hbig; have q_n := nI_toInt (n := PP.length) (by omega); omega)) dX8_pageIn_13 ?_
  refine kt_ (v := (mp (ix (F_X8_pair a1 a2)))) rfl ?_
  obtain ⟨y9, hy9⟩ : ∃ y9, (F_X1_numbered PP (mp (ix (F_X8_pair a1 a2)))) = y9 := ⟨_, rfl⟩
  have hcon := (c_X1_numbered l hl0 D ad H.size h_el h_li h_A k_el (h_li_0) kI AL PP capE (mp (ix (F_X8_pair a1 a2))) hlen hpos hbig (by have z0 := hy1; have q_len := hlen; have q_pos := hpos; have q_big := hbig; have q_n := nI_toInt (n := PP.length) (by omega); omega))
  rw [hy9] at hcon
  refine kr_ (va_runV (As := [.int (mp (ix (F_X8_pair a1 a2)))]) (rest := []) ⟨hx, hb, hml, hown, hts⟩ hcon (cwV 1 hts gX8_pageIn_X1_numbered rfl rfl rfl (by decide +kernel) ⟨Nat.le_of_ble_eq_true rfl, Nat.le_of_ble_eq_true rfl⟩) ⟨PR_.blind, va_recv hK hP (ci := 5) (q0 := 2) rfl rfl, PR_.pre hF hK (hP.part [0, 1, 2] rfl) hS hA [0, 2] rfl⟩ rfl rfl hl.1 rfl (lv_room (Nat.le_of_ble_eq_true rfl)) dX8_pageIn_14 ⟨(Nat.le_of_ble_eq_true rfl), (Nat.le_of_ble_eq_true rfl)⟩) hP hS hA (fun H locs hP hS => ?_)
  subst hy9
  refine W.eq (g2 := F0 m 17 ls [.ref (pad AL (F_X1_numbered PP (mp (ix (F_X8_pair a1 a2)))))]) rfl ?_
  refine W.widen (k := 0) (n := 0) (Nat.le_of_ble_eq_true rfl) (Nat.le_of_ble_eq_true rfl) ?_
  exact W.aret (v := .ref (pad AL (F_X1_numbered PP (mp (ix (F_X8_pair a1 a2)))))) hx hb hr (Or.inl ⟨_, rfl⟩) (Or.inr ⟨_, rfl⟩) (QR_.mk hS (by rw [hM])) hS.2.2 dX8_pageIn_17
def F_X5_has (cn : Int32) (a1 : Int32) : Int32 := (if a1 < 0 then 0 else (if cn ≤ a1 then 0 else 1))
theorem R_X5_has {n a : Int32} (h : ¬ F_X5_has n a = 0) : 0 ≤ a.toInt ∧ a.toInt < n.toInt := by
  have e0 : (0 : Int32).toInt = 0 := by decide +kernel
  have e6 : (6 : Int32).toInt = 6 := by decide +kernel
  unfold F_X5_has at h
  by_cases c1 : a < 0
  · rw [if_pos c1] at h; exact absurd rfl h
  rw [if_neg c1] at h
  by_cases c2 : n ≤ a
  · rw [if_pos c2] at h; exact absurd rfl h
  have y1 := f_nlt c1
  have y2 := f_nle c2
  omega
set_option maxHeartbeats 4000000 in
set_option maxRecDepth 100000 in
theorem c_X5_has (l : Launch) (hl0 : l.stackTraces = false) (D : va_G) (ad : Nat → Nat) (sz : Nat) (h_L : Nat) (h_L_0 : Value) (h_L_2 : Value) (cn : Int32) (a1 : Int32) (hy0 : 0 ≤ cn.toInt) (hy2 : cn.toInt ≤ 1000000) : Met l yX5_has wsX5_has ({ frames := 0, cells := 0, slots := 0, locals := 0 }) (PR_ D ad [(h_L, .inr (8, [h_L_0, .int cn, h_L_2]))] [] sz [.ref h_L, .int a1]) (QR_ (.int (F_X5_has cn a1)) (va_A [] sz)) 0 0 (va_A [] sz) := by
  refine Met.ofW (cc := cX5_has) (maxL := 2) (ret := (some .boolean)) (by decide) rfl ?_
  intro p e s m args below meth c s₁ B hml hv
  obtain ⟨rfl, hsz, hP, hK, hF⟩ := hv
  have hx := B.exec
  have hb := B.bytes
  have hr := B.returns
  have hts := atoms_spec (ws := wsX5_has) B.pre
  have hown : s.vm.findClass RX5 = some m.cls := findClass_of_methodNamed B.named
  have hlocks := B.notSynchronized
  subst hsz
  generalize hAe : va_A [] s.heap.size = A at hF ⊢
  have hA : ∀ q : Nat, s.heap.size ≤ q → A q := fun q h => by rw [← hAe]; exact Or.inr h
  obtain ⟨H, hHe⟩ : ∃ H : Heap, H = s.heap := ⟨_, rfl⟩
  have hS : va_S A s.heap H [] := by rw [hHe]; exact va_S.rf
  have hP : va_P D vwCl [(h_L, .inr (8, [h_L_0, .int cn, h_L_2]))] H := by rw [hHe]; exact hP
  rw [← hHe]
  have hi_X5 : ∀ w ∈ wsX50, w ∈ wsX5_has := by decide +kernel
  have hl := lv_entry [.ref h_L, .int a1] (n := 2) (Nat.le_of_ble_eq_true rfl)
  rw [lg_entry_eq]
  generalize (lg_sl [.ref h_L, .int a1] ++ List.replicate (2 - (lg_sl [.ref h_L, .int a1]).length) Slot.unset).toArray = ls at hl ⊢
  have hl : lv_has ls 2 [(0, .ref h_L), (1, .int a1)] := hl
  have hM : F_X5_has cn a1 = (if a1 < 0 then 0 else (if cn ≤ a1 then 0 else 1)) := rfl
  refine lv_iload_n hx hb dX5_has_0 rfl (lv_at hl 1 rfl) ?_
  refine lv_if_lt (tgt := 16) hx hb dX5_has_1 (by decide) (fun c_1 => ?_) (fun c_1 => ?_)
  · rw [if_pos c_1] at hM
    refine lv_iconst (v := 0) hx hb dX5_has_16 (by decide) ?_
    refine W.widen (k := 0) (n := 0) (Nat.le_of_ble_eq_true rfl) (Nat.le_of_ble_eq_true rfl) ?_
    exact W.zret (v := 0) hx hb hr rfl (QR_.mk hS (by rw [hM])) hS.2.2 dX5_has_17
  · rw [if_neg c_1] at hM
    refine lv_iload_n hx hb dX5_has_4 rfl (lv_at hl 1 rfl) ?_
    refine lv_aload_n hx hb dX5_has_5 rfl (lv_at hl 0 rfl) ?_
    refine va_get (D := D) (ci := 8) (v := .int cn) (own := RX5) (C := RX5) (T := TX5) (N := 3) hx hb hts hi_X5 hown hK hP 0 rfl rfl 1 (by decide) (hts (.fieldLink RX5 15 "CanalMaps$Letters" "count" "I") (List.mem_of_getElem? (i := 1) (by decide +kernel))) (fun _ h9 => h9) rfl dX5_has_6 ?_
    refine lv_icmp_ge (tgt := 16) hx hb dX5_has_9 (by decide) (fun c_2 => ?_) (fun c_2 => ?_)
    · rw [if_pos c_2] at hM
      refine lv_iconst (v := 0) hx hb dX5_has_16 (by decide) ?_
      refine W.widen (k := 0) (n := 0) (Nat.le_of_ble_eq_true rfl) (Nat.le_of_ble_eq_true rfl) ?_
      exact W.zret (v := 0) hx hb hr rfl (QR_.mk hS (by rw [hM])) hS.2.2 dX5_has_17
    · rw [if_neg c_2] at hM
      refine lv_iconst (v := 1) hx hb dX5_has_12 (by decide) ?_
      refine lv_goto (tgt := 17) hx hb dX5_has_13 (by decide) ?_
      refine W.widen (k := 0) (n := 0) (Nat.le_of_ble_eq_true rfl) (Nat.le_of_ble_eq_true rfl) ?_
      exact W.zret (v := 1) hx hb hr rfl (QR_.mk hS (by rw [hM])) hS.2.2 dX5_has_17
def F_X5_pageOf (pk : Nat → Int32) (cn : Int32) (a1 : Int32) : Int32 := (if (F_X5_has cn a1) = 0 then 0 else ((pk (ix a1)) / 36))
set_option maxHeartbeats 4000000 in
set_option maxRecDepth 100000 in
theorem c_X5_pageOf (l : Launch) (hl0 : l.stackTraces = false) (D : va_G) (ad : Nat → Nat) (sz : Nat) (h_pk : Nat) (h_L : Nat) (k_pk : ClassId) (h_L_2 : Value) (cap : Nat) (pk : Nat → Int32) (cn : Int32) (a1 : Int32) (hy0 : 0 ≤ cn.toInt) (hy1 : cn.toInt ≤ cap) (hy2 : cn.toInt ≤ 1000000) (hy3 : 64 ≤ cap) (hy4 : cap ≤ 2000000) : Met l yX5_pageOf wsX5_pageOf ({ frames := 1, cells := 0, slots := 0, locals := 23 }) (PR_ D ad [(h_pk, .inl (k_pk, cap, .inl pk)), (h_L, .inr (8, [.ref h_pk, .int cn, h_L_2]))] [(k_pk, .int)] sz [.ref h_L, .int a1]) (QR_ (.int (F_X5_pageOf pk cn a1)) (va_A [] sz)) 0 0 (va_A [] sz) := by
  refine Met.ofW (cc := cX5_pageOf) (maxL := 2) (ret := (some .int)) (by decide) rfl ?_
  intro p e s m args below meth c s₁ B hml hv
  obtain ⟨rfl, hsz, hP, hK, hF⟩ := hv
  have hx := B.exec
  have hb := B.bytes
  have hr := B.returns
  have hts := atoms_spec (ws := wsX5_pageOf) B.pre
  have hown : s.vm.findClass RX5 = some m.cls := findClass_of_methodNamed B.named
  have hlocks := B.notSynchronized
  subst hsz
  generalize hAe : va_A [] s.heap.size = A at hF ⊢
  have hA : ∀ q : Nat, s.heap.size ≤ q → A q := fun q h => by rw [← hAe]; exact Or.inr h
  obtain ⟨H, hHe⟩ : ∃ H : Heap, H = s.heap := ⟨_, rfl⟩
  have hS : va_S A s.heap H [] := by rw [hHe]; exact va_S.rf
  have hP : va_P D vwCl [(h_pk, .inl (k_pk, cap, .inl pk)), (h_L, .inr (8, [.ref h_pk, .int cn, h_L_2]))] H := by rw [hHe]; exact hP
  rw [← hHe]
  have hi_X5 : ∀ w ∈ wsX50, w ∈ wsX5_pageOf := by decide +kernel
  have hl := lv_entry [.ref h_L, .int a1] (n := 2) (Nat.le_of_ble_eq_true rfl)
  rw [lg_entry_eq]
  generalize (lg_sl [.ref h_L, .int a1] ++ List.replicate (2 - (lg_sl [.ref h_L, .int a1]).length) Slot.unset).toArray = ls at hl ⊢
  have hl : lv_has ls 2 [(0, .ref h_L), (1, .int a1)] := hl
  have hM : F_X5_pageOf pk cn a1 = (if (F_X5_has cn a1) = 0 then 0 else ((pk (ix a1)) / 36)) := rfl
  refine lv_aload_n hx hb dX5_pageOf_0 rfl (lv_at hl 0 rfl) ?_
  refine lv_iload_n hx hb dX5_pageOf_1 rfl (lv_at hl 1 rfl) ?_
  obtain ⟨y9, hy9⟩ : ∃ y9, (F_X5_has cn a1) = y9 := ⟨_, rfl⟩
  have hcon := (c_X5_has l hl0 D ad H.size h_L (.ref h_pk) (h_L_2) cn a1 (by have z0 := hy0; have z1 := hy1; have z2 := hy2; have z3 := hy3; have z4 := hy4; omega) (by have z0 := hy0; have z1 := hy1; have z2 := hy2; have z3 := hy3; have z4 := hy4; omega))
  rw [hy9] at hcon
  refine kr_ (va_runV (As := [.int a1]) (rest := []) ⟨hx, hb, hml, hown, hts⟩ hcon (cwV 1 hts gX5_pageOf_X5_has rfl rfl rfl (by decide +kernel) ⟨Nat.le_of_ble_eq_true rfl, Nat.le_of_ble_eq_true rfl⟩) ⟨PR_.blind, va_recv hK hP (ci := 8) (q0 := 1) rfl rfl, PR_.pre hF hK (hP.sub [1] rfl) hS hA [] rfl⟩ rfl rfl hl.1 rfl (lv_room (Nat.le_of_ble_eq_true rfl)) dX5_pageOf_2 ⟨(Nat.le_of_ble_eq_true rfl), (Nat.le_of_ble_eq_true rfl)⟩) hP hS hA (fun H locs hP hS => ?_)
  subst hy9
  refine W.eq (g2 := F0 m 5 ls [.int (F_X5_has cn a1)]) rfl ?_
  refine lv_if_eq (tgt := 20) hx hb dX5_pageOf_5 (by decide) (fun c_2 => ?_) (fun c_2 => ?_)
  · rw [if_pos c_2] at hM
    refine lv_iconst (v := 0) hx hb dX5_pageOf_20 (by decide) ?_
    refine W.widen (k := 0) (n := 0) (Nat.le_of_ble_eq_true rfl) (Nat.le_of_ble_eq_true rfl) ?_
    exact W.iret (v := 0) hx hb hr (QR_.mk hS (by rw [hM])) hS.2.2 dX5_pageOf_21
  · rw [if_neg c_2] at hM
    refine lv_aload_n hx hb dX5_pageOf_8 rfl (lv_at hl 0 rfl) ?_
    refine va_get (D := D) (ci := 8) (v := .ref h_pk) (own := RX5) (C := RX5) (T := TX5) (N := 3) hx hb hts hi_X5 hown hK hP 1 rfl rfl 0 (by decide) (hts (.fieldLink RX5 11 "CanalMaps$Letters" "packed" "[I") (List.mem_of_getElem? (i := 1) (by decide +kernel))) (fun _ h9 => h9) rfl dX5_pageOf_9 ?_
    refine lv_iload_n hx hb dX5_pageOf_12 rfl (lv_at hl 1 rfl) ?_
    refine va_iald hx hb hK hP 0 0 rfl rfl (vinI (by have y0 := R_X5_has c_2; have z0 := hy0; have z1 := hy1; have z2 := hy2; have z3 := hy3; have z4 := hy4; have b4 := Int32.toInt_lt (a1); have d4 := Int32.le_toInt (a1); omega) (by have y0 := R_X5_has c_2; have z0 := hy0; have z1 := hy1; have z2 := hy2; have z3 := hy3; have z4 := hy4; have b4 := Int32.toInt_lt (a1); have d4 := Int32.le_toInt (a1); omega)) dX5_pageOf_13 ?_
    refine kt_ (v := (pk (ix a1))) rfl ?_
    refine lv_bipush (v := 36) hx hb dX5_pageOf_14 (by decide) ?_
    refine lv_idiv hx hb dX5_pageOf_16 (by decide +kernel) ?_
    refine lv_goto (tgt := 21) hx hb dX5_pageOf_17 (by decide) ?_
    refine W.widen (k := 0) (n := 0) (Nat.le_of_ble_eq_true rfl) (Nat.le_of_ble_eq_true rfl) ?_
    exact W.iret (v := ((pk (ix a1)) / 36)) hx hb hr (QR_.mk hS (by rw [hM])) hS.2.2 dX5_pageOf_21
def F_X8_pageOfLetter (PP : List PG) (pk : Nat → Int32) (cn : Int32) (a1 : Int32) : Nat := (F_X1_numbered PP (F_X5_pageOf pk cn a1))
theorem R_X8_pageOfLetter (PP : List PG) (pk : Nat → Int32) (cn a : Int32) (hpos : 0 < PP.length) (hbig : PP.length ≤ 2000000) : F_X8_pageOfLetter PP pk cn a < PP.length := R_X1_numbered PP _ hpos hbig
set_option maxHeartbeats 4000000 in
set_option maxRecDepth 100000 in
theorem c_X8_pageOfLetter (l : Launch) (hl0 : l.stackTraces = false) (D : va_G) (ad : Nat → Nat) (sz : Nat) (h_el : Nat) (h_li : Nat) (h_A : Nat) (h_pk : Nat) (h_L : Nat) (h_S : Nat) (k_el : ClassId) (k_pk : ClassId) (h_li_0 : Value) (h_L_2 : Value) (h_S_1 : Value) (h_S_2 : Value) (h_S_3 : Value) (h_S_5 : Value) (h_S_6 : Value) (h_S_7 : Value) (h_S_8 : Value) (h_S_9 : Value) (kI : ClassId) (AL : List (Nat × Nat)) (PP : List PG) (capE : Nat) (cap : Nat) (pk : Nat → Int32) (cn : Int32) (a1 : Int32) (hlen : AL.length = PP.length) (hpos : 0 < PP.length) (hbig : PP.length ≤ 2000000) (hy1 : PP.length ≤ capE) (hy2 : 0 ≤ cn.toInt) (hy3 : cn.toInt ≤ cap) (hy4 : cn.toInt ≤ 1000000) (hy5 : 64 ≤ cap) (hy6 : cap ≤ 2000000) : Met l yX8_pageOfLetter wsX8_pageOfLetter ({ frames := 4, cells := 0, slots := 0, locals := 93 }) (PR_ D ad ([(h_el, .inl (k_el, capE, .inr (.inr (.inr (.inr (egl AL)))))), (h_li, .inr (4, [h_li_0, .ref h_el, .int (nI PP.length)])), (h_A, .inr (5, [.ref h_li, .ref (pad AL 0)])), (h_pk, .inl (k_pk, cap, .inl pk)), (h_L, .inr (8, [.ref h_pk, .int cn, h_L_2])), (h_S, .inr (11, [.ref h_A, h_S_1, h_S_2, h_S_3, .ref h_L, h_S_5, h_S_6, h_S_7, h_S_8, h_S_9]))] ++ pgl kI AL PP) [(k_el, .object "java/lang/Object"), (k_pk, .int), (kI, .int)] sz [.ref h_S, .int a1]) (QR_ (.ref (pad AL (F_X8_pageOfLetter PP pk cn a1))) (va_A [] sz)) 0 0 (va_A [] sz) := by
  refine Met.ofW (cc := cX8_pageOfLetter) (maxL := 2) (ret := (some (.object "CanalMaps$Page"))) (by decide) rfl ?_
  intro p e s m args below meth c s₁ B hml hv
  obtain ⟨rfl, hsz, hP, hK, hF⟩ := hv
  have hx := B.exec
  have hb := B.bytes
  have hr := B.returns
  have hts := atoms_spec (ws := wsX8_pageOfLetter) B.pre
  have hown : s.vm.findClass RX8 = some m.cls := findClass_of_methodNamed B.named
  have hlocks := B.notSynchronized
  subst hsz
  generalize hAe : va_A [] s.heap.size = A at hF ⊢
  have hA : ∀ q : Nat, s.heap.size ≤ q → A q := fun q h => by rw [← hAe]; exact Or.inr h
  obtain ⟨H, hHe⟩ : ∃ H : Heap, H = s.heap := ⟨_, rfl⟩
  have hS : va_S A s.heap H [] := by rw [hHe]; exact va_S.rf
  have hP : va_P D vwCl ([(h_el, .inl (k_el, capE, .inr (.inr (.inr (.inr (egl AL)))))), (h_li, .inr (4, [h_li_0, .ref h_el, .int (nI PP.length)])), (h_A, .inr (5, [.ref h_li, .ref (pad AL 0)])), (h_pk, .inl (k_pk, cap, .inl pk)), (h_L, .inr (8, [.ref h_pk, .int cn, h_L_2])), (h_S, .inr (11, [.ref h_A, h_S_1, h_S_2, h_S_3, .ref h_L, h_S_5, h_S_6, h_S_7, h_S_8, h_S_9]))] ++ pgl kI AL PP) H := by rw [hHe]; exact hP
  rw [← hHe]
  have hi_X8 : ∀ w ∈ wsX80, w ∈ wsX8_pageOfLetter := by decide +kernel
  have hl := lv_entry [.ref h_S, .int a1] (n := 2) (Nat.le_of_ble_eq_true rfl)
  rw [lg_entry_eq]
  generalize (lg_sl [.ref h_S, .int a1] ++ List.replicate (2 - (lg_sl [.ref h_S, .int a1]).length) Slot.unset).toArray = ls at hl ⊢
  have hl : lv_has ls 2 [(0, .ref h_S), (1, .int a1)] := hl
  have hM : F_X8_pageOfLetter PP pk cn a1 = (F_X1_numbered PP (F_X5_pageOf pk cn a1)) := rfl
  refine lv_aload_n hx hb dX8_pageOfLetter_0 rfl (lv_at hl 0 rfl) ?_
  refine va_get (D := D) (ci := 11) (v := .ref h_A) (own := RX8) (C := RX8) (T := TX8) (N := 10) hx hb hts hi_X8 hown hK hP 5 rfl rfl 0 (by decide) (hts (.fieldLink RX8 44 "CanalMaps$Survey" "archive" "LCanalMaps$Archive;") (List.mem_of_getElem? (i := 1) (by decide +kernel))) (fun _ h9 => h9) rfl dX8_pageOfLetter_1 ?_
  refine lv_aload_n hx hb dX8_pageOfLetter_4 rfl (lv_at hl 0 rfl) ?_
  refine va_get (D := D) (ci := 11) (v := .ref h_L) (own := RX8) (C := RX8) (T := TX8) (N := 10) hx hb hts hi_X8 hown hK hP 5 rfl rfl 4 (by decide) (hts (.fieldLink RX8 24 "CanalMaps$Survey" "letters" "LCanalMaps$Letters;") (List.mem_of_getElem? (i := 2) (by decide +kernel))) (fun _ h9 => h9) rfl dX8_pageOfLetter_5 ?_
  refine lv_iload_n hx hb dX8_pageOfLetter_8 rfl (lv_at hl 1 rfl) ?_
  obtain ⟨y9, hy9⟩ : ∃ y9, (F_X5_pageOf pk cn a1) = y9 := ⟨_, rfl⟩
  have hcon := (c_X5_pageOf l hl0 D ad H.size h_pk h_L k_pk (h_L_2) cap pk cn a1 (by have z0 := hy1; have z1 := hy2; have z2 := hy3; have z3 := hy4; have z4 := hy5; have z5 := hy6; have q_len := hlen; have q_pos := hpos; have q_big := hbig; have q_n := nI_toInt (n := PP.length) (by omega); omega) (by have z0 := hy1; have z1 := hy2; have z2 := hy3; have z3 := hy4; have z4 := hy5; have z5 := hy6; have q_len := hlen; have q_pos := hpos; have q_big := hbig; have q_n := nI_toInt (n := PP.length) (by omega); omega) (by have z0 := hy1; have z1 := hy2; have z2 := hy3; have z3 := hy4; have z4 := hy5; have z5 := hy6; have q_len := hlen; have q_pos := hpos; have q_big := hbig; have q_n := nI_toInt (n := PP.length) (by omega); omega) (by have z0 := hy1; have z1 := hy2; have z2 := hy3; have z3 := hy4; have z4 := hy5; have z5 := hy6; have q_len := hlen; have q_pos := hpos; have q_big := hbig; have q_n := nI_toInt (n := PP.length) (by omega); omega) (by have z0 := hy1; have z1 := hy2; have z2 := hy3; have z3 := hy4; have z4 := hy5; have z5 := hy6; have q_len := hlen; have q_pos := hpos; have q_big := hbig; have q_n := nI_toInt (n := PP.length) (by omega); omega))
  rw [hy9] at hcon
  refine kr_ (va_runV (As := [.int a1]) (rest := [.ref h_A]) ⟨hx, hb, hml, hown, hts⟩ hcon (cwV 1 hts gX8_pageOfLetter_X5_pageOf rfl rfl rfl (by decide +kernel) ⟨Nat.le_of_ble_eq_true rfl, Nat.le_of_ble_eq_true rfl⟩) ⟨PR_.blind, va_recv hK hP (ci := 8) (q0 := 4) rfl rfl, PR_.pre hF hK (hP.sub [3, 4] rfl) hS hA [1] rfl⟩ rfl rfl hl.1 rfl (lv_room (Nat.le_of_ble_eq_true rfl)) dX8_pageOfLetter_9 ⟨(Nat.le_of_ble_eq_true rfl), (Nat.le_of_ble_eq_true rfl)⟩) hP hS hA (fun H locs hP hS => ?_)
  subst hy9
  refine W.eq (g2 := F0 m 12 ls [.int (F_X5_pageOf pk cn a1), .ref h_A]) rfl ?_
  obtain ⟨y9, hy9⟩ : ∃ y9, (F_X1_numbered PP (F_X5_pageOf pk cn a1)) = y9 := ⟨_, rfl⟩
  have hcon := (c_X1_numbered l hl0 D ad H.size h_el h_li h_A k_el (h_li_0) kI AL PP capE (F_X5_pageOf pk cn a1) hlen hpos hbig (by have z0 := hy1; have z1 := hy2; have z2 := hy3; have z3 := hy4; have z4 := hy5; have z5 := hy6; have q_len := hlen; have q_pos := hpos; have q_big := hbig; have q_n := nI_toInt (n := PP.length) (by omega); omega))
  rw [hy9] at hcon
  refine kr_ (va_runV (As := [.int (F_X5_pageOf pk cn a1)]) (rest := []) ⟨hx, hb, hml, hown, hts⟩ hcon (cwV 1 hts gX8_pageOfLetter_X1_numbered rfl rfl rfl (by decide +kernel) ⟨Nat.le_of_ble_eq_true rfl, Nat.le_of_ble_eq_true rfl⟩) ⟨PR_.blind, va_recv hK hP (ci := 5) (q0 := 2) rfl rfl, PR_.pre hF hK (hP.part [0, 1, 2] rfl) hS hA [0, 2] rfl⟩ rfl rfl hl.1 rfl (lv_room (Nat.le_of_ble_eq_true rfl)) dX8_pageOfLetter_12 ⟨(Nat.le_of_ble_eq_true rfl), (Nat.le_of_ble_eq_true rfl)⟩) hP hS hA (fun H locs hP hS => ?_)
  subst hy9
  refine W.eq (g2 := F0 m 15 ls [.ref (pad AL (F_X1_numbered PP (F_X5_pageOf pk cn a1)))]) rfl ?_
  refine W.widen (k := 0) (n := 0) (Nat.le_of_ble_eq_true rfl) (Nat.le_of_ble_eq_true rfl) ?_
  exact W.aret (v := .ref (pad AL (F_X1_numbered PP (F_X5_pageOf pk cn a1)))) hx hb hr (Or.inl ⟨_, rfl⟩) (Or.inr ⟨_, rfl⟩) (QR_.mk hS (by rw [hM])) hS.2.2 dX8_pageOfLetter_15
def F_X6_isBlank (ps : Int32) : Int32 := (if ps = 0 then 1 else 0)
set_option maxHeartbeats 4000000 in
set_option maxRecDepth 100000 in
theorem c_X6_isBlank (l : Launch) (hl0 : l.stackTraces = false) (D : va_G) (ad : Nat → Nat) (sz : Nat) (h_P : Nat) (h_P_0 : Value) (h_P_2 : Value) (h_P_3 : Value) (ps : Int32) : Met l yX6_isBlank wsX6_isBlank ({ frames := 0, cells := 0, slots := 0, locals := 0 }) (PR_ D ad [(h_P, .inr (9, [h_P_0, .int ps, h_P_2, h_P_3]))] [] sz [.ref h_P]) (QR_ (.int (F_X6_isBlank ps)) (va_A [] sz)) 0 0 (va_A [] sz) := by
  refine Met.ofW (cc := cX6_isBlank) (maxL := 1) (ret := (some .boolean)) (by decide) rfl ?_
  intro p e s m args below meth c s₁ B hml hv
  obtain ⟨rfl, hsz, hP, hK, hF⟩ := hv
  have hx := B.exec
  have hb := B.bytes
  have hr := B.returns
  have hts := atoms_spec (ws := wsX6_isBlank) B.pre
  have hown : s.vm.findClass RX6 = some m.cls := findClass_of_methodNamed B.named
  have hlocks := B.notSynchronized
  subst hsz
  generalize hAe : va_A [] s.heap.size = A at hF ⊢
  have hA : ∀ q : Nat, s.heap.size ≤ q → A q := fun q h => by rw [← hAe]; exact Or.inr h
  obtain ⟨H, hHe⟩ : ∃ H : Heap, H = s.heap := ⟨_, rfl⟩
  have hS : va_S A s.heap H [] := by rw [hHe]; exact va_S.rf
  have hP : va_P D vwCl [(h_P, .inr (9, [h_P_0, .int ps, h_P_2, h_P_3]))] H := by rw [hHe]; exact hP
  rw [← hHe]
  have hi_X6 : ∀ w ∈ wsX60, w ∈ wsX6_isBlank := by decide +kernel
  have hl := lv_entry [.ref h_P] (n := 1) (Nat.le_of_ble_eq_true rfl)
  rw [lg_entry_eq]
  generalize (lg_sl [.ref h_P] ++ List.replicate (1 - (lg_sl [.ref h_P]).length) Slot.unset).toArray = ls at hl ⊢
  have hl : lv_has ls 1 [(0, .ref h_P)] := hl
  have hM : F_X6_isBlank ps = (if ps = 0 then 1 else 0) := rfl
  refine lv_aload_n hx hb dX6_isBlank_0 rfl (lv_at hl 0 rfl) ?_
  refine va_get (D := D) (ci := 9) (v := .int ps) (own := RX6) (C := RX6) (T := TX6) (N := 4) hx hb hts hi_X6 hown hK hP 0 rfl rfl 1 (by decide) (hts (.fieldLink RX6 13 "CanalMaps$Page" "serial" "I") (List.mem_of_getElem? (i := 1) (by decide +kernel))) (fun _ h9 => h9) rfl dX6_isBlank_1 ?_
  refine lv_if_ne (tgt := 11) hx hb dX6_isBlank_4 (by decide) (fun c_1 => ?_) (fun c_1 => ?_)
  · rw [if_neg c_1] at hM
    refine lv_iconst (v := 0) hx hb dX6_isBlank_11 (by decide) ?_
    refine W.widen (k := 0) (n := 0) (Nat.le_of_ble_eq_true rfl) (Nat.le_of_ble_eq_true rfl) ?_
    exact W.zret (v := 0) hx hb hr rfl (QR_.mk hS (by rw [hM])) hS.2.2 dX6_isBlank_12
  · rw [if_pos c_1] at hM
    refine lv_iconst (v := 1) hx hb dX6_isBlank_7 (by decide) ?_
    refine lv_goto (tgt := 12) hx hb dX6_isBlank_8 (by decide) ?_
    refine W.widen (k := 0) (n := 0) (Nat.le_of_ble_eq_true rfl) (Nat.le_of_ble_eq_true rfl) ?_
    exact W.zret (v := 1) hx hb hr rfl (QR_.mk hS (by rw [hM])) hS.2.2 dX6_isBlank_12
def F_X6_costTo (pc : Nat → Int32) (a1 : Int32) : Int32 := (if a1 < 0 then 0 else (if 6 ≤ a1 then 0 else (pc (ix a1))))
theorem R_X6_costTo (pc : Nat → Int32) (a : Int32) (h : PC9_ pc) : 0 ≤ (F_X6_costTo pc a).toInt ∧ (F_X6_costTo pc a).toInt < 10 := by
  have e0 : (0 : Int32).toInt = 0 := by decide +kernel
  unfold F_X6_costTo
  repeat' split
  all_goals first | exact h _ | omega
set_option maxHeartbeats 4000000 in
set_option maxRecDepth 100000 in
theorem c_X6_costTo (l : Launch) (hl0 : l.stackTraces = false) (D : va_G) (ad : Nat → Nat) (sz : Nat) (h_pc : Nat) (h_P : Nat) (k_pc : ClassId) (h_P_0 : Value) (h_P_1 : Value) (h_P_2 : Value) (pc : Nat → Int32) (a1 : Int32) : Met l yX6_costTo wsX6_costTo ({ frames := 0, cells := 0, slots := 0, locals := 0 }) (PR_ D ad [(h_pc, .inl (k_pc, 6, .inl pc)), (h_P, .inr (9, [h_P_0, h_P_1, h_P_2, .ref h_pc]))] [(k_pc, .int)] sz [.ref h_P, .int a1]) (QR_ (.int (F_X6_costTo pc a1)) (va_A [] sz)) 0 0 (va_A [] sz) := by
  refine Met.ofW (cc := cX6_costTo) (maxL := 2) (ret := (some .int)) (by decide) rfl ?_
  intro p e s m args below meth c s₁ B hml hv
  obtain ⟨rfl, hsz, hP, hK, hF⟩ := hv
  have hx := B.exec
  have hb := B.bytes
  have hr := B.returns
  have hts := atoms_spec (ws := wsX6_costTo) B.pre
  have hown : s.vm.findClass RX6 = some m.cls := findClass_of_methodNamed B.named
  have hlocks := B.notSynchronized
  subst hsz
  generalize hAe : va_A [] s.heap.size = A at hF ⊢
  have hA : ∀ q : Nat, s.heap.size ≤ q → A q := fun q h => by rw [← hAe]; exact Or.inr h
  obtain ⟨H, hHe⟩ : ∃ H : Heap, H = s.heap := ⟨_, rfl⟩
  have hS : va_S A s.heap H [] := by rw [hHe]; exact va_S.rf
  have hP : va_P D vwCl [(h_pc, .inl (k_pc, 6, .inl pc)), (h_P, .inr (9, [h_P_0, h_P_1, h_P_2, .ref h_pc]))] H := by rw [hHe]; exact hP
  rw [← hHe]
  have hi_X6 : ∀ w ∈ wsX60, w ∈ wsX6_costTo := by decide +kernel
  have hl := lv_entry [.ref h_P, .int a1] (n := 2) (Nat.le_of_ble_eq_true rfl)
  rw [lg_entry_eq]
  generalize (lg_sl [.ref h_P, .int a1] ++ List.replicate (2 - (lg_sl [.ref h_P, .int a1]).length) Slot.unset).toArray = ls at hl ⊢
  have hl : lv_has ls 2 [(0, .ref h_P), (1, .int a1)] := hl
  have hM : F_X6_costTo pc a1 = (if a1 < 0 then 0 else (if 6 ≤ a1 then 0 else (pc (ix a1)))) := rfl
  refine lv_iload_n hx hb dX6_costTo_0 rfl (lv_at hl 1 rfl) ?_
  refine lv_if_lt (tgt := 22) hx hb dX6_costTo_1 (by decide) (fun c_1 => ?_) (fun c_1 => ?_)
  · rw [if_pos c_1] at hM
    refine lv_iconst (v := 0) hx hb dX6_costTo_22 (by decide) ?_
    refine W.widen (k := 0) (n := 0) (Nat.le_of_ble_eq_true rfl) (Nat.le_of_ble_eq_true rfl) ?_
    exact W.iret (v := 0) hx hb hr (QR_.mk hS (by rw [hM])) hS.2.2 dX6_costTo_23
  · rw [if_neg c_1] at hM
    refine lv_iload_n hx hb dX6_costTo_4 rfl (lv_at hl 1 rfl) ?_
    refine lv_aload_n hx hb dX6_costTo_5 rfl (lv_at hl 0 rfl) ?_
    refine va_get (D := D) (ci := 9) (v := .ref h_pc) (own := RX6) (C := RX6) (T := TX6) (N := 4) hx hb hts hi_X6 hown hK hP 1 rfl rfl 3 (by decide) (hts (.fieldLink RX6 19 "CanalMaps$Page" "costs" "[I") (List.mem_of_getElem? (i := 1) (by decide +kernel))) (fun _ h9 => h9) rfl dX6_costTo_6 ?_
    refine va_alen (v := 6) hx hb hK hP 0 0 rfl rfl rfl dX6_costTo_9 ?_
    refine lv_icmp_ge (tgt := 22) hx hb dX6_costTo_10 (by decide) (fun c_2 => ?_) (fun c_2 => ?_)
    · rw [if_pos c_2] at hM
      refine lv_iconst (v := 0) hx hb dX6_costTo_22 (by decide) ?_
      refine W.widen (k := 0) (n := 0) (Nat.le_of_ble_eq_true rfl) (Nat.le_of_ble_eq_true rfl) ?_
      exact W.iret (v := 0) hx hb hr (QR_.mk hS (by rw [hM])) hS.2.2 dX6_costTo_23
    · rw [if_neg c_2] at hM
      refine lv_aload_n hx hb dX6_costTo_13 rfl (lv_at hl 0 rfl) ?_
      refine va_get (D := D) (ci := 9) (v := .ref h_pc) (own := RX6) (C := RX6) (T := TX6) (N := 4) hx hb hts hi_X6 hown hK hP 1 rfl rfl 3 (by decide) (hts (.fieldLink RX6 19 "CanalMaps$Page" "costs" "[I") (List.mem_of_getElem? (i := 1) (by decide +kernel))) (fun _ h9 => h9) rfl dX6_costTo_14 ?_
      refine lv_iload_n hx hb dX6_costTo_17 rfl (lv_at hl 1 rfl) ?_
      refine va_iald hx hb hK hP 0 0 rfl rfl (vinI (by have y0 := f_nlt c_1; have y1 := f_nle c_2; have e_0 : (0 : Int32).toInt = 0 := (by decide +kernel); have e_6 : (6 : Int32).toInt = 6 := (by decide +kernel); have b4 := Int32.toInt_lt (a1); have d4 := Int32.le_toInt (a1); omega) (by have y0 := f_nlt c_1; have y1 := f_nle c_2; have e_0 : (0 : Int32).toInt = 0 := (by decide +kernel); have e_6 : (6 : Int32).toInt = 6 := (by decide +kernel); have b4 := Int32.toInt_lt (a1); have d4 := Int32.le_toInt (a1); omega)) dX6_costTo_18 ?_
      refine kt_ (v := (pc (ix a1))) rfl ?_
      refine lv_goto (tgt := 23) hx hb dX6_costTo_19 (by decide) ?_
      refine W.widen (k := 0) (n := 0) (Nat.le_of_ble_eq_true rfl) (Nat.le_of_ble_eq_true rfl) ?_
      exact W.iret (v := (pc (ix a1))) hx hb hr (QR_.mk hS (by rw [hM])) hS.2.2 dX6_costTo_23
def B_X6_costsTold_4 (pc : Nat → Int32) (rc_4 : Int32 → Int32 → (Int32 × Int32)) (x4_1 : Int32) (x4_2 : Int32) : Int32 × Int32 := (if 6 ≤ x4_2 then (x4_1, x4_2) else (if (pc (ix x4_2)) ≤ 0 then (rc_4 x4_1 (x4_2 + 1)) else (rc_4 (x4_1 + 1) (x4_2 + 1))))
def L_X6_costsTold_4 (pc : Nat → Int32) : Nat → Int32 → Int32 → (Int32 × Int32)
  | 0 => fun x4_1 x4_2 => (x4_1, x4_2)
  | k + 1 => B_X6_costsTold_4 pc (L_X6_costsTold_4 pc k)
def K_X6_costsTold_4  : (Int32 × Int32) → (Int32)
  | (x4_1, x4_2) => x4_1
def F_X6_costsTold (pc : Nat → Int32) : Int32 := (K_X6_costsTold_4 (L_X6_costsTold_4 pc (((6 : Int32).toInt - (0 : Int32).toInt).toNat + 1) 0 0))
set_option maxHeartbeats 4000000 in
set_option maxRecDepth 100000 in
theorem c_X6_costsTold (l : Launch) (hl0 : l.stackTraces = false) (D : va_G) (ad : Nat → Nat) (sz : Nat) (h_pc : Nat) (h_P : Nat) (k_pc : ClassId) (h_P_0 : Value) (h_P_1 : Value) (h_P_2 : Value) (pc : Nat → Int32) : Met l yX6_costsTold wsX6_costsTold ({ frames := 0, cells := 0, slots := 0, locals := 0 }) (PR_ D ad [(h_pc, .inl (k_pc, 6, .inl pc)), (h_P, .inr (9, [h_P_0, h_P_1, h_P_2, .ref h_pc]))] [(k_pc, .int)] sz [.ref h_P]) (QR_ (.int (F_X6_costsTold pc)) (va_A [] sz)) 0 0 (va_A [] sz) := by
  refine Met.ofW (cc := cX6_costsTold) (maxL := 3) (ret := (some .int)) (by decide) rfl ?_
  intro p e s m args below meth c s₁ B hml hv
  obtain ⟨rfl, hsz, hP, hK, hF⟩ := hv
  have hx := B.exec
  have hb := B.bytes
  have hr := B.returns
  have hts := atoms_spec (ws := wsX6_costsTold) B.pre
  have hown : s.vm.findClass RX6 = some m.cls := findClass_of_methodNamed B.named
  have hlocks := B.notSynchronized
  subst hsz
  generalize hAe : va_A [] s.heap.size = A at hF ⊢
  have hA : ∀ q : Nat, s.heap.size ≤ q → A q := fun q h => by rw [← hAe]; exact Or.inr h
  obtain ⟨H, hHe⟩ : ∃ H : Heap, H = s.heap := ⟨_, rfl⟩
  have hS : va_S A s.heap H [] := by rw [hHe]; exact va_S.rf
  have hP : va_P D vwCl [(h_pc, .inl (k_pc, 6, .inl pc)), (h_P, .inr (9, [h_P_0, h_P_1, h_P_2, .ref h_pc]))] H := by rw [hHe]; exact hP
  rw [← hHe]
  have hi_X6 : ∀ w ∈ wsX60, w ∈ wsX6_costsTold := by decide +kernel
  have hl := lv_entry [.ref h_P] (n := 3) (Nat.le_of_ble_eq_true rfl)
  rw [lg_entry_eq]
  generalize (lg_sl [.ref h_P] ++ List.replicate (3 - (lg_sl [.ref h_P]).length) Slot.unset).toArray = ls at hl ⊢
  have hl : lv_has ls 3 [(0, .ref h_P)] := hl
  have hM : F_X6_costsTold pc = (K_X6_costsTold_4 (L_X6_costsTold_4 pc (((6 : Int32).toInt - (0 : Int32).toInt).toNat + 1) 0 0)) := rfl
  refine lv_iconst (v := 0) hx hb dX6_costsTold_0 (by decide) ?_
  refine lv_istore_n (lv' := [(1, .int 0), (0, .ref h_P)]) hx hb dX6_costsTold_1 rfl hl (by decide) rfl (fun ls hl => ?_)
  refine lv_iconst (v := 0) hx hb dX6_costsTold_2 (by decide) ?_
  refine lv_istore_n (lv' := [(2, .int 0), (1, .int 0), (0, .ref h_P)]) hx hb dX6_costsTold_3 rfl hl (by decide) rfl (fun ls hl => ?_)
  refine lpW (τ := Int32 × Int32) (fun k t H locs ls c9 s9 => ((6 : Int32).toInt - (t.2 : Int32).toInt).toNat < k ∧ 0 ≤ (t.2 : Int32).toInt ∧ va_P D vwCl [(h_pc, .inl (k_pc, 6, .inl pc)), (h_P, .inr (9, [h_P_0, h_P_1, h_P_2, .ref h_pc]))] H ∧ va_S A s.heap H locs ∧ lv_has ls 3 [(2, .int t.2), (1, .int t.1), (0, .ref h_P)] ∧ F_X6_costsTold pc = (K_X6_costsTold_4 (L_X6_costsTold_4 pc k t.1 t.2)) ∧ c9 = 0 ∧ s9 = 0) (fun t H locs ls c9 s9 h9 => absurd h9.1 (Nat.not_lt_zero _)) (fun k_1 ih t H locs ls c9 s9 hI => ?_) (((6 : Int32).toInt - (0 : Int32).toInt).toNat + 1) (0, 0) ⟨Nat.lt_succ_self _, (show 0 ≤ (0 : Int32).toInt from (by decide +kernel)), hP, hS, (by exact hl), hM, rfl, rfl⟩
  obtain ⟨x4_1, x4_2⟩ := t
  obtain ⟨hk_1, hz_1, hP, hS, hl, hM, hcs, hss⟩ := hI
  replace hcs := hcs.symm
  subst hcs
  replace hss := hss.symm
  subst hss
  have hP : va_P D vwCl [(h_pc, .inl (k_pc, 6, .inl pc)), (h_P, .inr (9, [h_P_0, h_P_1, h_P_2, .ref h_pc]))] H := hP
  have hl : lv_has ls 3 [(2, .int x4_2), (1, .int x4_1), (0, .ref h_P)] := hl
  have hz_1 : 0 ≤ (x4_2 : Int32).toInt := hz_1
  have hk_1 : ((6 : Int32).toInt - (x4_2 : Int32).toInt).toNat < k_1 + 1 := hk_1
  have hM : F_X6_costsTold pc = (K_X6_costsTold_4 ((if 6 ≤ x4_2 then (x4_1, x4_2) else (if (pc (ix x4_2)) ≤ 0 then ((L_X6_costsTold_4 pc k_1) x4_1 (x4_2 + 1)) else ((L_X6_costsTold_4 pc k_1) (x4_1 + 1) (x4_2 + 1)))))) := hM
  have ih_1 := ih
  refine lv_iload_n hx hb dX6_costsTold_4 rfl (lv_at hl 0 rfl) ?_
  refine lv_aload_n hx hb dX6_costsTold_5 rfl (lv_at hl 2 rfl) ?_
  refine va_get (D := D) (ci := 9) (v := .ref h_pc) (own := RX6) (C := RX6) (T := TX6) (N := 4) hx hb hts hi_X6 hown hK hP 1 rfl rfl 3 (by decide) (hts (.fieldLink RX6 19 "CanalMaps$Page" "costs" "[I") (List.mem_of_getElem? (i := 1) (by decide +kernel))) (fun _ h9 => h9) rfl dX6_costsTold_6 ?_
  refine va_alen (v := 6) hx hb hK hP 0 0 rfl rfl rfl dX6_costsTold_9 ?_
  refine lv_icmp_ge (tgt := 31) hx hb dX6_costsTold_10 (by decide) (fun c_2 => ?_) (fun c_2 => ?_)
  · rw [if_pos c_2] at hM
    have hM : F_X6_costsTold pc = x4_1 := hM
    refine lv_iload_n hx hb dX6_costsTold_31 rfl (lv_at hl 1 rfl) ?_
    refine W.widen (k := 0) (n := 0) (Nat.le_of_ble_eq_true rfl) (Nat.le_of_ble_eq_true rfl) ?_
    exact W.iret (v := x4_1) hx hb hr (QR_.mk hS (by rw [hM])) hS.2.2 dX6_costsTold_32
  · rw [if_neg c_2] at hM
    refine lv_aload_n hx hb dX6_costsTold_13 rfl (lv_at hl 2 rfl) ?_
    refine va_get (D := D) (ci := 9) (v := .ref h_pc) (own := RX6) (C := RX6) (T := TX6) (N := 4) hx hb hts hi_X6 hown hK hP 1 rfl rfl 3 (by decide) (hts (.fieldLink RX6 19 "CanalMaps$Page" "costs" "[I") (List.mem_of_getElem? (i := 1) (by decide +kernel))) (fun _ h9 => h9) rfl dX6_costsTold_14 ?_
    refine lv_iload_n hx hb dX6_costsTold_17 rfl (lv_at hl 0 rfl) ?_
    refine va_iald hx hb hK hP 0 0 rfl rfl (vinI (by have y0 := f_nle c_2; have z0 := hz_1; have e_6 : (6 : Int32).toInt = 6 := (by decide +kernel); have b9 := Int32.toInt_lt (x4_2); have d9 := Int32.le_toInt (x4_2); omega) (by have y0 := f_nle c_2; have z0 := hz_1; have e_6 : (6 : Int32).toInt = 6 := (by decide +kernel); have b9 := Int32.toInt_lt (x4_2); have d9 := Int32.le_toInt (x4_2); omega)) dX6_costsTold_18 ?_
    refine kt_ (v := (pc (ix x4_2))) rfl ?_
    refine lv_if_le (tgt := 25) hx hb dX6_costsTold_19 (by decide) (fun c_3 => ?_) (fun c_3 => ?_)
    · rw [if_pos c_3] at hM
      refine lv_iinc (v := (x4_2 + 1)) (lv' := [(2, .int (x4_2 + 1)), (1, .int x4_1), (0, .ref h_P)]) hx hb dX6_costsTold_25 hl (k := 0) rfl rfl (by decide) rfl (fun ls hl => ?_)
      refine lv_goto (tgt := 4) hx hb dX6_costsTold_28 (by decide) ?_
      exact ih_1 (x4_1, (x4_2 + 1)) _ _ _ _ _ ⟨lp_up hk_1 c_2, lp_up0 hz_1 c_2, hP, hS, lv_sub hl [0, 1, 2] rfl, hM, rfl, rfl⟩
    · rw [if_neg c_3] at hM
      refine lv_iinc (v := (x4_1 + 1)) (lv' := [(1, .int (x4_1 + 1)), (2, .int x4_2), (0, .ref h_P)]) hx hb dX6_costsTold_22 hl (k := 1) rfl rfl (by decide) rfl (fun ls hl => ?_)
      refine lv_iinc (v := (x4_2 + 1)) (lv' := [(2, .int (x4_2 + 1)), (1, .int (x4_1 + 1)), (0, .ref h_P)]) hx hb dX6_costsTold_25 hl (k := 1) rfl rfl (by decide) rfl (fun ls hl => ?_)
      refine lv_goto (tgt := 4) hx hb dX6_costsTold_28 (by decide) ?_
      exact ih_1 ((x4_1 + 1), (x4_2 + 1)) _ _ _ _ _ ⟨lp_up hk_1 c_2, lp_up0 hz_1 c_2, hP, hS, lv_sub hl [0, 1, 2] rfl, hM, rfl, rfl⟩
def F_X8_ageOf (tk : Int32) (pm : Int32) : Int32 := (tk - pm)
set_option maxHeartbeats 4000000 in
set_option maxRecDepth 100000 in
theorem c_X8_ageOf (l : Launch) (hl0 : l.stackTraces = false) (D : va_G) (ad : Nat → Nat) (sz : Nat) (h_S : Nat) (h_P : Nat) (h_S_0 : Value) (h_S_1 : Value) (h_S_2 : Value) (h_S_3 : Value) (h_S_4 : Value) (h_S_5 : Value) (h_S_7 : Value) (h_S_8 : Value) (h_S_9 : Value) (h_P_0 : Value) (h_P_1 : Value) (h_P_3 : Value) (tk : Int32) (pm : Int32) : Met l yX8_ageOf wsX8_ageOf ({ frames := 0, cells := 0, slots := 0, locals := 0 }) (PR_ D ad [(h_S, .inr (11, [h_S_0, h_S_1, h_S_2, h_S_3, h_S_4, h_S_5, .int tk, h_S_7, h_S_8, h_S_9])), (h_P, .inr (9, [h_P_0, h_P_1, .int pm, h_P_3]))] [] sz [.ref h_S, .ref h_P]) (QR_ (.int (F_X8_ageOf tk pm)) (va_A [] sz)) 0 0 (va_A [] sz) := by
  refine Met.ofW (cc := cX8_ageOf) (maxL := 2) (ret := (some .int)) (by decide) rfl ?_
  intro p e s m args below meth c s₁ B hml hv
  obtain ⟨rfl, hsz, hP, hK, hF⟩ := hv
  have hx := B.exec
  have hb := B.bytes
  have hr := B.returns
  have hts := atoms_spec (ws := wsX8_ageOf) B.pre
  have hown : s.vm.findClass RX8 = some m.cls := findClass_of_methodNamed B.named
  have hlocks := B.notSynchronized
  subst hsz
  generalize hAe : va_A [] s.heap.size = A at hF ⊢
  have hA : ∀ q : Nat, s.heap.size ≤ q → A q := fun q h => by rw [← hAe]; exact Or.inr h
  obtain ⟨H, hHe⟩ : ∃ H : Heap, H = s.heap := ⟨_, rfl⟩
  have hS : va_S A s.heap H [] := by rw [hHe]; exact va_S.rf
  have hP : va_P D vwCl [(h_S, .inr (11, [h_S_0, h_S_1, h_S_2, h_S_3, h_S_4, h_S_5, .int tk, h_S_7, h_S_8, h_S_9])), (h_P, .inr (9, [h_P_0, h_P_1, .int pm, h_P_3]))] H := by rw [hHe]; exact hP
  rw [← hHe]
  have hi_X6 : ∀ w ∈ wsX60, w ∈ wsX8_ageOf := by decide +kernel
  have hi_X8 : ∀ w ∈ wsX80, w ∈ wsX8_ageOf := by decide +kernel
  have hl := lv_entry [.ref h_S, .ref h_P] (n := 2) (Nat.le_of_ble_eq_true rfl)
  rw [lg_entry_eq]
  generalize (lg_sl [.ref h_S, .ref h_P] ++ List.replicate (2 - (lg_sl [.ref h_S, .ref h_P]).length) Slot.unset).toArray = ls at hl ⊢
  have hl : lv_has ls 2 [(0, .ref h_S), (1, .ref h_P)] := hl
  have hM : F_X8_ageOf tk pm = (tk - pm) := rfl
  refine lv_aload_n hx hb dX8_ageOf_0 rfl (lv_at hl 0 rfl) ?_
  refine va_get (D := D) (ci := 11) (v := .int tk) (own := RX8) (C := RX8) (T := TX8) (N := 10) hx hb hts hi_X8 hown hK hP 0 rfl rfl 6 (by decide) (hts (.fieldLink RX8 32 "CanalMaps$Survey" "ticks" "I") (List.mem_of_getElem? (i := 1) (by decide +kernel))) (fun _ h9 => h9) rfl dX8_ageOf_1 ?_
  refine lv_aload_n hx hb dX8_ageOf_4 rfl (lv_at hl 1 rfl) ?_
  refine va_getN (D := D) (ci := 9) (v := .int pm) (own := RX8) (C := RX6) (T := TX6) (N := 4) hx hb hts hi_X6 hown hK hP 1 rfl rfl 2 (by decide) (fxn_ hF (RX8, 76, "CanalMaps$Page", "madeAt", "I")) (fun _ h9 => h9) rfl dX8_ageOf_5 ?_
  refine lv_isub hx hb dX8_ageOf_8 ?_
  refine W.widen (k := 0) (n := 0) (Nat.le_of_ble_eq_true rfl) (Nat.le_of_ble_eq_true rfl) ?_
  exact W.iret (v := (tk - pm)) hx hb hr (QR_.mk hS (by rw [hM])) hS.2.2 dX8_ageOf_9
def B_X8_pagesIn_4 (PP : List PG) (mp : Nat → Int32) (n : Int32) (a1 : Int32) (rc_4 : Int32 → Int32 → (Int32 × Int32)) (x4_2 : Int32) (x4_3 : Int32) : Int32 × Int32 := (if n ≤ x4_3 then (x4_2, x4_3) else (if (F_X6_isBlank ((pgd PP (F_X8_pageIn PP mp a1 x4_3)).2.1)) = 0 then (rc_4 (x4_2 + 1) (x4_3 + 1)) else (rc_4 x4_2 (x4_3 + 1))))
def L_X8_pagesIn_4 (PP : List PG) (mp : Nat → Int32) (n : Int32) (a1 : Int32) : Nat → Int32 → Int32 → (Int32 × Int32)
  | 0 => fun x4_2 x4_3 => (x4_2, x4_3)
  | k + 1 => B_X8_pagesIn_4 PP mp n a1 (L_X8_pagesIn_4 PP mp n a1 k)
def K_X8_pagesIn_4  : (Int32 × Int32) → (Int32)
  | (x4_2, x4_3) => x4_2
def F_X8_pagesIn (PP : List PG) (mp : Nat → Int32) (n : Int32) (a1 : Int32) : Int32 := (K_X8_pagesIn_4 (L_X8_pagesIn_4 PP mp n a1 (((n : Int32).toInt - (0 : Int32).toInt).toNat + 1) 0 0))
set_option maxHeartbeats 4000000 in
set_option maxRecDepth 100000 in
theorem c_X8_pagesIn (l : Launch) (hl0 : l.stackTraces = false) (D : va_G) (ad : Nat → Nat) (sz : Nat) (h_el : Nat) (h_li : Nat) (h_A : Nat) (h_mp : Nat) (h_S : Nat) (k_el : ClassId) (k_mp : ClassId) (h_li_0 : Value) (h_S_1 : Value) (h_S_2 : Value) (h_S_4 : Value) (h_S_6 : Value) (h_S_7 : Value) (h_S_8 : Value) (h_S_9 : Value) (kI : ClassId) (AL : List (Nat × Nat)) (PP : List PG) (capE : Nat) (mp : Nat → Int32) (n : Int32) (a1 : Int32) (hlen : AL.length = PP.length) (hpos : 0 < PP.length) (hbig : PP.length ≤ 2000000) (hy0 : n.toInt ≤ 6) (hy1 : PP.length ≤ capE) : Met l yX8_pagesIn wsX8_pagesIn ({ frames := 5, cells := 0, slots := 0, locals := 117 }) (PR_ D ad ([(h_el, .inl (k_el, capE, .inr (.inr (.inr (.inr (egl AL)))))), (h_li, .inr (4, [h_li_0, .ref h_el, .int (nI PP.length)])), (h_A, .inr (5, [.ref h_li, .ref (pad AL 0)])), (h_mp, .inl (k_mp, 36, .inl mp)), (h_S, .inr (11, [.ref h_A, h_S_1, h_S_2, .ref h_mp, h_S_4, .int n, h_S_6, h_S_7, h_S_8, h_S_9]))] ++ pgl kI AL PP) [(k_el, .object "java/lang/Object"), (k_mp, .int), (kI, .int)] sz [.ref h_S, .int a1]) (QR_ (.int (F_X8_pagesIn PP mp n a1)) (va_A [] sz)) 0 0 (va_A [] sz) := by
  refine Met.ofW (cc := cX8_pagesIn) (maxL := 4) (ret := (some .int)) (by decide) rfl ?_
  intro p e s m args below meth c s₁ B hml hv
  obtain ⟨rfl, hsz, hP, hK, hF⟩ := hv
  have hx := B.exec
  have hb := B.bytes
  have hr := B.returns
  have hts := atoms_spec (ws := wsX8_pagesIn) B.pre
  have hown : s.vm.findClass RX8 = some m.cls := findClass_of_methodNamed B.named
  have hlocks := B.notSynchronized
  subst hsz
  generalize hAe : va_A [] s.heap.size = A at hF ⊢
  have hA : ∀ q : Nat, s.heap.size ≤ q → A q := fun q h => by rw [← hAe]; exact Or.inr h
  obtain ⟨H, hHe⟩ : ∃ H : Heap, H = s.heap := ⟨_, rfl⟩
  have hS : va_S A s.heap H [] := by rw [hHe]; exact va_S.rf
  have hP : va_P D vwCl ([(h_el, .inl (k_el, capE, .inr (.inr (.inr (.inr (egl AL)))))), (h_li, .inr (4, [h_li_0, .ref h_el, .int (nI PP.length)])), (h_A, .inr (5, [.ref h_li, .ref (pad AL 0)])), (h_mp, .inl (k_mp, 36, .inl mp)), (h_S, .inr (11, [.ref h_A, h_S_1, h_S_2, .ref h_mp, h_S_4, .int n, h_S_6, h_S_7, h_S_8, h_S_9]))] ++ pgl kI AL PP) H := by rw [hHe]; exact hP
  rw [← hHe]
  have hi_X8 : ∀ w ∈ wsX80, w ∈ wsX8_pagesIn := by decide +kernel
  have hl := lv_entry [.ref h_S, .int a1] (n := 4) (Nat.le_of_ble_eq_true rfl)
  rw [lg_entry_eq]
  generalize (lg_sl [.ref h_S, .int a1] ++ List.replicate (4 - (lg_sl [.ref h_S, .int a1]).length) Slot.unset).toArray = ls at hl ⊢
  have hl : lv_has ls 4 [(0, .ref h_S), (1, .int a1)] := hl
  have hM : F_X8_pagesIn PP mp n a1 = (K_X8_pagesIn_4 (L_X8_pagesIn_4 PP mp n a1 (((n : Int32).toInt - (0 : Int32).toInt).toNat + 1) 0 0)) := rfl
  refine lv_iconst (v := 0) hx hb dX8_pagesIn_0 (by decide) ?_
  refine lv_istore_n (lv' := [(2, .int 0), (0, .ref h_S), (1, .int a1)]) hx hb dX8_pagesIn_1 rfl hl (by decide) rfl (fun ls hl => ?_)
  refine lv_iconst (v := 0) hx hb dX8_pagesIn_2 (by decide) ?_
  refine lv_istore_n (lv' := [(3, .int 0), (2, .int 0), (0, .ref h_S), (1, .int a1)]) hx hb dX8_pagesIn_3 rfl hl (by decide) rfl (fun ls hl => ?_)
  refine lpW (τ := Int32 × Int32) (fun k t H locs ls c9 s9 => ((n : Int32).toInt - (t.2 : Int32).toInt).toNat < k ∧ 0 ≤ (t.2 : Int32).toInt ∧ va_P D vwCl ([(h_el, .inl (k_el, capE, .inr (.inr (.inr (.inr (egl AL)))))), (h_li, .inr (4, [h_li_0, .ref h_el, .int (nI PP.length)])), (h_A, .inr (5, [.ref h_li, .ref (pad AL 0)])), (h_mp, .inl (k_mp, 36, .inl mp)), (h_S, .inr (11, [.ref h_A, h_S_1, h_S_2, .ref h_mp, h_S_4, .int n, h_S_6, h_S_7, h_S_8, h_S_9]))] ++ pgl kI AL PP) H ∧ va_S A s.heap H locs ∧ lv_has ls 4 [(3, .int t.2), (2, .int t.1), (0, .ref h_S), (1, .int a1)] ∧ F_X8_pagesIn PP mp n a1 = (K_X8_pagesIn_4 (L_X8_pagesIn_4 PP mp n a1 k t.1 t.2)) ∧ c9 = 0 ∧ s9 = 0) (fun t H locs ls c9 s9 h9 => absurd h9.1 (Nat.not_lt_zero _)) (fun k_1 ih t H locs ls c9 s9 hI => ?_) (((n : Int32).toInt - (0 : Int32).toInt).toNat + 1) (0, 0) ⟨Nat.lt_succ_self _, (show 0 ≤ (0 : Int32).toInt from (by decide +kernel)), hP, hS, (by exact hl), hM, rfl, rfl⟩
  obtain ⟨x4_2, x4_3⟩ := t
  obtain ⟨hk_1, hz_1, hP, hS, hl, hM, hcs, hss⟩ := hI
  replace hcs := hcs.symm
  subst hcs
  replace hss := hss.symm
  subst hss
  have hP : va_P D vwCl ([(h_el, .inl (k_el, capE, .inr (.inr (.inr (.inr (egl AL)))))), (h_li, .inr (4, [h_li_0, .ref h_el, .int (nI PP.length)])), (h_A, .inr (5, [.ref h_li, .ref (pad AL 0)])), (h_mp, .inl (k_mp, 36, .inl mp)), (h_S, .inr (11, [.ref h_A, h_S_1, h_S_2, .ref h_mp, h_S_4, .int n, h_S_6, h_S_7, h_S_8, h_S_9]))] ++ pgl kI AL PP) H := hP
  have hl : lv_has ls 4 [(3, .int x4_3), (2, .int x4_2), (0, .ref h_S), (1, .int a1)] := hl
  have hz_1 : 0 ≤ (x4_3 : Int32).toInt := hz_1
  have hk_1 : ((n : Int32).toInt - (x4_3 : Int32).toInt).toNat < k_1 + 1 := hk_1
  have hM : F_X8_pagesIn PP mp n a1 = (K_X8_pagesIn_4 ((if n ≤ x4_3 then (x4_2, x4_3) else (if (F_X6_isBlank ((pgd PP (F_X8_pageIn PP mp a1 x4_3)).2.1)) = 0 then ((L_X8_pagesIn_4 PP mp n a1 k_1) (x4_2 + 1) (x4_3 + 1)) else ((L_X8_pagesIn_4 PP mp n a1 k_1) x4_2 (x4_3 + 1)))))) := hM
  have ih_1 := ih
  refine lv_iload_n hx hb dX8_pagesIn_4 rfl (lv_at hl 0 rfl) ?_
  refine lv_aload_n hx hb dX8_pagesIn_5 rfl (lv_at hl 2 rfl) ?_
  refine va_get (D := D) (ci := 11) (v := .int n) (own := RX8) (C := RX8) (T := TX8) (N := 10) hx hb hts hi_X8 hown hK hP 4 rfl rfl 5 (by decide) (hts (.fieldLink RX8 28 "CanalMaps$Survey" "surveyors" "I") (List.mem_of_getElem? (i := 1) (by decide +kernel))) (fun _ h9 => h9) rfl dX8_pagesIn_6 ?_
  refine lv_icmp_ge (tgt := 33) hx hb dX8_pagesIn_9 (by decide) (fun c_2 => ?_) (fun c_2 => ?_)
  · rw [if_pos c_2] at hM
    have hM : F_X8_pagesIn PP mp n a1 = x4_2 := hM
    refine lv_iload_n hx hb dX8_pagesIn_33 rfl (lv_at hl 1 rfl) ?_
    refine W.widen (k := 0) (n := 0) (Nat.le_of_ble_eq_true rfl) (Nat.le_of_ble_eq_true rfl) ?_
    exact W.iret (v := x4_2) hx hb hr (QR_.mk hS (by rw [hM])) hS.2.2 dX8_pagesIn_34
  · rw [if_neg c_2] at hM
    refine lv_aload_n hx hb dX8_pagesIn_12 rfl (lv_at hl 2 rfl) ?_
    refine lv_iload_n hx hb dX8_pagesIn_13 rfl (lv_at hl 3 rfl) ?_
    refine lv_iload_n hx hb dX8_pagesIn_14 rfl (lv_at hl 0 rfl) ?_
    obtain ⟨y9, hy9⟩ : ∃ y9, (F_X8_pageIn PP mp a1 x4_3) = y9 := ⟨_, rfl⟩
    have hcon := (c_X8_pageIn l hl0 D ad H.size h_el h_li h_A h_mp h_S k_el k_mp (h_li_0) (h_S_1) (h_S_2) (h_S_4) (.int n) (h_S_6) (h_S_7) (h_S_8) (h_S_9) kI AL PP capE mp a1 x4_3 hlen hpos hbig (by have y0 := f_nle c_2; have z0 := hy0; have z1 := hy1; have z2 := hz_1; have q_len := hlen; have q_pos := hpos; have q_big := hbig; have q_n := nI_toInt (n := PP.length) (by omega); omega))
    rw [hy9] at hcon
    refine kr_ (va_runV (As := [.int a1, .int x4_3]) (rest := []) ⟨hx, hb, hml, hown, hts⟩ hcon (cwV 2 hts gX8_pagesIn_X8_pageIn rfl rfl rfl (by decide +kernel) ⟨Nat.le_of_ble_eq_true rfl, Nat.le_of_ble_eq_true rfl⟩) ⟨PR_.blind, va_recv hK hP (ci := 11) (q0 := 4) rfl rfl, PR_.pre hF hK (hP.part [0, 1, 2, 3, 4] rfl) hS hA [0, 1, 2] rfl⟩ rfl rfl hl.1 rfl (lv_room (Nat.le_of_ble_eq_true rfl)) dX8_pagesIn_15 ⟨(Nat.le_of_ble_eq_true rfl), (Nat.le_of_ble_eq_true rfl)⟩) hP hS hA (fun H locs hP hS => ?_)
    subst hy9
    refine W.eq (g2 := F0 m 18 ls [.ref (pad AL (F_X8_pageIn PP mp a1 x4_3))]) rfl ?_
    have hPg := pgw (k := (F_X8_pageIn PP mp a1 x4_3)) hP hlen (by have y0 := f_nle c_2; have z0 := hy0; have z1 := hy1; have z2 := hz_1; have rn_X8_pageIn := R_X8_pageIn PP mp a1 x4_3 hpos hbig; have q_len := hlen; have q_pos := hpos; have q_big := hbig; have q_n := nI_toInt (n := PP.length) (by omega); omega)
    obtain ⟨y9, hy9⟩ : ∃ y9, (F_X6_isBlank ((pgd PP (F_X8_pageIn PP mp a1 x4_3)).2.1)) = y9 := ⟨_, rfl⟩
    have hcon := (c_X6_isBlank l hl0 D ad H.size (pad AL (F_X8_pageIn PP mp a1 x4_3)) (.int (pgd PP (F_X8_pageIn PP mp a1 x4_3)).1) (.int (pgd PP (F_X8_pageIn PP mp a1 x4_3)).2.2.1) (.ref (qad AL (F_X8_pageIn PP mp a1 x4_3))) ((pgd PP (F_X8_pageIn PP mp a1 x4_3)).2.1))
    rw [hy9] at hcon
    refine kr_ (va_runV (As := []) (rest := []) ⟨hx, hb, hml, hown, hts⟩ hcon (cwV 0 hts gX8_pagesIn_X6_isBlank rfl rfl rfl (by decide +kernel) ⟨Nat.le_of_ble_eq_true rfl, Nat.le_of_ble_eq_true rfl⟩) ⟨PR_.blind, va_recv hK hPg (ci := 9) (q0 := 0) rfl rfl, PR_.pre hF hK (hPg.sub [0] rfl) hS hA [] rfl⟩ rfl rfl hl.1 rfl (lv_room (Nat.le_of_ble_eq_true rfl)) dX8_pagesIn_18 ⟨(Nat.le_of_ble_eq_true rfl), (Nat.le_of_ble_eq_true rfl)⟩) hP hS hA (fun H locs hP hS => ?_)
    subst hy9
    refine W.eq (g2 := F0 m 21 ls [.int (F_X6_isBlank ((pgd PP (F_X8_pageIn PP mp a1 x4_3)).2.1))]) rfl ?_
    refine lv_if_ne (tgt := 27) hx hb dX8_pagesIn_21 (by decide) (fun c_5 => ?_) (fun c_5 => ?_)
    · rw [if_neg c_5] at hM
      refine lv_iinc (v := (x4_3 + 1)) (lv' := [(3, .int (x4_3 + 1)), (2, .int x4_2), (0, .ref h_S), (1, .int a1)]) hx hb dX8_pagesIn_27 hl (k := 0) rfl rfl (by decide) rfl (fun ls hl => ?_)
      refine lv_goto (tgt := 4) hx hb dX8_pagesIn_30 (by decide) ?_
      exact ih_1 (x4_2, (x4_3 + 1)) _ _ _ _ _ ⟨lp_up hk_1 c_2, lp_up0 hz_1 c_2, hP, hS, lv_sub hl [0, 1, 2, 3] rfl, hM, rfl, rfl⟩
    · rw [if_pos c_5] at hM
      refine lv_iinc (v := (x4_2 + 1)) (lv' := [(2, .int (x4_2 + 1)), (3, .int x4_3), (0, .ref h_S), (1, .int a1)]) hx hb dX8_pagesIn_24 hl (k := 1) rfl rfl (by decide) rfl (fun ls hl => ?_)
      refine lv_iinc (v := (x4_3 + 1)) (lv' := [(3, .int (x4_3 + 1)), (2, .int (x4_2 + 1)), (0, .ref h_S), (1, .int a1)]) hx hb dX8_pagesIn_27 hl (k := 1) rfl rfl (by decide) rfl (fun ls hl => ?_)
      refine lv_goto (tgt := 4) hx hb dX8_pagesIn_30 (by decide) ?_
      exact ih_1 ((x4_2 + 1), (x4_3 + 1)) _ _ _ _ _ ⟨lp_up hk_1 c_2, lp_up0 hz_1 c_2, hP, hS, lv_sub hl [0, 1, 2, 3] rfl, hM, rfl, rfl⟩
def B_X8_countPages_4 (PP : List PG) (mp : Nat → Int32) (n : Int32) (rc_4 : Int32 → Int32 → (Int32 × Int32)) (x4_1 : Int32) (x4_2 : Int32) : Int32 × Int32 := (if n ≤ x4_2 then (x4_1, x4_2) else (rc_4 (x4_1 + (F_X8_pagesIn PP mp n x4_2)) (x4_2 + 1)))
def L_X8_countPages_4 (PP : List PG) (mp : Nat → Int32) (n : Int32) : Nat → Int32 → Int32 → (Int32 × Int32)
  | 0 => fun x4_1 x4_2 => (x4_1, x4_2)
  | k + 1 => B_X8_countPages_4 PP mp n (L_X8_countPages_4 PP mp n k)
def K_X8_countPages_4  : (Int32 × Int32) → (Int32)
  | (x4_1, x4_2) => x4_1
def F_X8_countPages (PP : List PG) (mp : Nat → Int32) (n : Int32) : Int32 := (K_X8_countPages_4 (L_X8_countPages_4 PP mp n (((n : Int32).toInt - (0 : Int32).toInt).toNat + 1) 0 0))
set_option maxHeartbeats 4000000 in
set_option maxRecDepth 100000 in
theorem c_X8_countPages (l : Launch) (hl0 : l.stackTraces = false) (D : va_G) (ad : Nat → Nat) (sz : Nat) (h_el : Nat) (h_li : Nat) (h_A : Nat) (h_mp : Nat) (h_S : Nat) (k_el : ClassId) (k_mp : ClassId) (h_li_0 : Value) (h_S_1 : Value) (h_S_2 : Value) (h_S_4 : Value) (h_S_6 : Value) (h_S_7 : Value) (h_S_8 : Value) (h_S_9 : Value) (kI : ClassId) (AL : List (Nat × Nat)) (PP : List PG) (capE : Nat) (mp : Nat → Int32) (n : Int32) (hlen : AL.length = PP.length) (hpos : 0 < PP.length) (hbig : PP.length ≤ 2000000) (hy0 : n.toInt ≤ 6) (hy1 : PP.length ≤ capE) : Met l yX8_countPages wsX8_countPages ({ frames := 6, cells := 0, slots := 0, locals := 142 }) (PR_ D ad ([(h_el, .inl (k_el, capE, .inr (.inr (.inr (.inr (egl AL)))))), (h_li, .inr (4, [h_li_0, .ref h_el, .int (nI PP.length)])), (h_A, .inr (5, [.ref h_li, .ref (pad AL 0)])), (h_mp, .inl (k_mp, 36, .inl mp)), (h_S, .inr (11, [.ref h_A, h_S_1, h_S_2, .ref h_mp, h_S_4, .int n, h_S_6, h_S_7, h_S_8, h_S_9]))] ++ pgl kI AL PP) [(k_el, .object "java/lang/Object"), (k_mp, .int), (kI, .int)] sz [.ref h_S]) (QR_ (.int (F_X8_countPages PP mp n)) (va_A [] sz)) 0 0 (va_A [] sz) := by
  refine Met.ofW (cc := cX8_countPages) (maxL := 3) (ret := (some .int)) (by decide) rfl ?_
  intro p e s m args below meth c s₁ B hml hv
  obtain ⟨rfl, hsz, hP, hK, hF⟩ := hv
  have hx := B.exec
  have hb := B.bytes
  have hr := B.returns
  have hts := atoms_spec (ws := wsX8_countPages) B.pre
  have hown : s.vm.findClass RX8 = some m.cls := findClass_of_methodNamed B.named
  have hlocks := B.notSynchronized
  subst hsz
  generalize hAe : va_A [] s.heap.size = A at hF ⊢
  have hA : ∀ q : Nat, s.heap.size ≤ q → A q := fun q h => by rw [← hAe]; exact Or.inr h
  obtain ⟨H, hHe⟩ : ∃ H : Heap, H = s.heap := ⟨_, rfl⟩
  have hS : va_S A s.heap H [] := by rw [hHe]; exact va_S.rf
  have hP : va_P D vwCl ([(h_el, .inl (k_el, capE, .inr (.inr (.inr (.inr (egl AL)))))), (h_li, .inr (4, [h_li_0, .ref h_el, .int (nI PP.length)])), (h_A, .inr (5, [.ref h_li, .ref (pad AL 0)])), (h_mp, .inl (k_mp, 36, .inl mp)), (h_S, .inr (11, [.ref h_A, h_S_1, h_S_2, .ref h_mp, h_S_4, .int n, h_S_6, h_S_7, h_S_8, h_S_9]))] ++ pgl kI AL PP) H := by rw [hHe]; exact hP
  rw [← hHe]
  have hi_X8 : ∀ w ∈ wsX80, w ∈ wsX8_countPages := by decide +kernel
  have hl := lv_entry [.ref h_S] (n := 3) (Nat.le_of_ble_eq_true rfl)
  rw [lg_entry_eq]
  generalize (lg_sl [.ref h_S] ++ List.replicate (3 - (lg_sl [.ref h_S]).length) Slot.unset).toArray = ls at hl ⊢
  have hl : lv_has ls 3 [(0, .ref h_S)] := hl
  have hM : F_X8_countPages PP mp n = (K_X8_countPages_4 (L_X8_countPages_4 PP mp n (((n : Int32).toInt - (0 : Int32).toInt).toNat + 1) 0 0)) := rfl
  refine lv_iconst (v := 0) hx hb dX8_countPages_0 (by decide) ?_
  refine lv_istore_n (lv' := [(1, .int 0), (0, .ref h_S)]) hx hb dX8_countPages_1 rfl hl (by decide) rfl (fun ls hl => ?_)
  refine lv_iconst (v := 0) hx hb dX8_countPages_2 (by decide) ?_
  refine lv_istore_n (lv' := [(2, .int 0), (1, .int 0), (0, .ref h_S)]) hx hb dX8_countPages_3 rfl hl (by decide) rfl (fun ls hl => ?_)
  refine lpW (τ := Int32 × Int32) (fun k t H locs ls c9 s9 => ((n : Int32).toInt - (t.2 : Int32).toInt).toNat < k ∧ 0 ≤ (t.2 : Int32).toInt ∧ va_P D vwCl ([(h_el, .inl (k_el, capE, .inr (.inr (.inr (.inr (egl AL)))))), (h_li, .inr (4, [h_li_0, .ref h_el, .int (nI PP.length)])), (h_A, .inr (5, [.ref h_li, .ref (pad AL 0)])), (h_mp, .inl (k_mp, 36, .inl mp)), (h_S, .inr (11, [.ref h_A, h_S_1, h_S_2, .ref h_mp, h_S_4, .int n, h_S_6, h_S_7, h_S_8, h_S_9]))] ++ pgl kI AL PP) H ∧ va_S A s.heap H locs ∧ lv_has ls 3 [(2, .int t.2), (1, .int t.1), (0, .ref h_S)] ∧ F_X8_countPages PP mp n = (K_X8_countPages_4 (L_X8_countPages_4 PP mp n k t.1 t.2)) ∧ c9 = 0 ∧ s9 = 0) (fun t H locs ls c9 s9 h9 => absurd h9.1 (Nat.not_lt_zero _)) (fun k_1 ih t H locs ls c9 s9 hI => ?_) (((n : Int32).toInt - (0 : Int32).toInt).toNat + 1) (0, 0) ⟨Nat.lt_succ_self _, (show 0 ≤ (0 : Int32).toInt from (by decide +kernel)), hP, hS, (by exact hl), hM, rfl, rfl⟩
  obtain ⟨x4_1, x4_2⟩ := t
  obtain ⟨hk_1, hz_1, hP, hS, hl, hM, hcs, hss⟩ := hI
  replace hcs := hcs.symm
  subst hcs
  replace hss := hss.symm
  subst hss
  have hP : va_P D vwCl ([(h_el, .inl (k_el, capE, .inr (.inr (.inr (.inr (egl AL)))))), (h_li, .inr (4, [h_li_0, .ref h_el, .int (nI PP.length)])), (h_A, .inr (5, [.ref h_li, .ref (pad AL 0)])), (h_mp, .inl (k_mp, 36, .inl mp)), (h_S, .inr (11, [.ref h_A, h_S_1, h_S_2, .ref h_mp, h_S_4, .int n, h_S_6, h_S_7, h_S_8, h_S_9]))] ++ pgl kI AL PP) H := hP
  have hl : lv_has ls 3 [(2, .int x4_2), (1, .int x4_1), (0, .ref h_S)] := hl
  have hz_1 : 0 ≤ (x4_2 : Int32).toInt := hz_1
  have hk_1 : ((n : Int32).toInt - (x4_2 : Int32).toInt).toNat < k_1 + 1 := hk_1
  have hM : F_X8_countPages PP mp n = (K_X8_countPages_4 ((if n ≤ x4_2 then (x4_1, x4_2) else ((L_X8_countPages_4 PP mp n k_1) (x4_1 + (F_X8_pagesIn PP mp n x4_2)) (x4_2 + 1))))) := hM
  have ih_1 := ih
  refine lv_iload_n hx hb dX8_countPages_4 rfl (lv_at hl 0 rfl) ?_
  refine lv_aload_n hx hb dX8_countPages_5 rfl (lv_at hl 2 rfl) ?_
  refine va_get (D := D) (ci := 11) (v := .int n) (own := RX8) (C := RX8) (T := TX8) (N := 10) hx hb hts hi_X8 hown hK hP 4 rfl rfl 5 (by decide) (hts (.fieldLink RX8 28 "CanalMaps$Survey" "surveyors" "I") (List.mem_of_getElem? (i := 1) (by decide +kernel))) (fun _ h9 => h9) rfl dX8_countPages_6 ?_
  refine lv_icmp_ge (tgt := 26) hx hb dX8_countPages_9 (by decide) (fun c_2 => ?_) (fun c_2 => ?_)
  · rw [if_pos c_2] at hM
    have hM : F_X8_countPages PP mp n = x4_1 := hM
    refine lv_iload_n hx hb dX8_countPages_26 rfl (lv_at hl 1 rfl) ?_
    refine W.widen (k := 0) (n := 0) (Nat.le_of_ble_eq_true rfl) (Nat.le_of_ble_eq_true rfl) ?_
    exact W.iret (v := x4_1) hx hb hr (QR_.mk hS (by rw [hM])) hS.2.2 dX8_countPages_27
  · rw [if_neg c_2] at hM
    refine lv_iload_n hx hb dX8_countPages_12 rfl (lv_at hl 1 rfl) ?_
    refine lv_aload_n hx hb dX8_countPages_13 rfl (lv_at hl 2 rfl) ?_
    refine lv_iload_n hx hb dX8_countPages_14 rfl (lv_at hl 0 rfl) ?_
    obtain ⟨y9, hy9⟩ : ∃ y9, (F_X8_pagesIn PP mp n x4_2) = y9 := ⟨_, rfl⟩
    have hcon := (c_X8_pagesIn l hl0 D ad H.size h_el h_li h_A h_mp h_S k_el k_mp (h_li_0) (h_S_1) (h_S_2) (h_S_4) (h_S_6) (h_S_7) (h_S_8) (h_S_9) kI AL PP capE mp n x4_2 hlen hpos hbig (by have y0 := f_nle c_2; have z0 := hy0; have z1 := hy1; have z2 := hz_1; have q_len := hlen; have q_pos := hpos; have q_big := hbig; have q_n := nI_toInt (n := PP.length) (by omega); omega) (by have y0 := f_nle c_2; have z0 := hy0; have z1 := hy1; have z2 := hz_1; have q_len := hlen; have q_pos := hpos; have q_big := hbig; have q_n := nI_toInt (n := PP.length) (by omega); omega))
    rw [hy9] at hcon
    refine kr_ (va_runV (As := [.int x4_2]) (rest := [.int x4_1]) ⟨hx, hb, hml, hown, hts⟩ hcon (cwV 1 hts gX8_countPages_X8_pagesIn rfl rfl rfl (by decide +kernel) ⟨Nat.le_of_ble_eq_true rfl, Nat.le_of_ble_eq_true rfl⟩) ⟨PR_.blind, va_recv hK hP (ci := 11) (q0 := 4) rfl rfl, PR_.pre hF hK (hP.part [0, 1, 2, 3, 4] rfl) hS hA [0, 1, 2] rfl⟩ rfl rfl hl.1 rfl (lv_room (Nat.le_of_ble_eq_true rfl)) dX8_countPages_15 ⟨(Nat.le_of_ble_eq_true rfl), (Nat.le_of_ble_eq_true rfl)⟩) hP hS hA (fun H locs hP hS => ?_)
    subst hy9
    refine W.eq (g2 := F0 m 18 ls [.int (F_X8_pagesIn PP mp n x4_2), .int x4_1]) rfl ?_
    refine lv_iadd hx hb dX8_countPages_18 ?_
    refine lv_istore_n (lv' := [(1, .int (x4_1 + (F_X8_pagesIn PP mp n x4_2))), (2, .int x4_2), (0, .ref h_S)]) hx hb dX8_countPages_19 rfl hl (by decide) rfl (fun ls hl => ?_)
    refine lv_iinc (v := (x4_2 + 1)) (lv' := [(2, .int (x4_2 + 1)), (1, .int (x4_1 + (F_X8_pagesIn PP mp n x4_2))), (0, .ref h_S)]) hx hb dX8_countPages_20 hl (k := 1) rfl rfl (by decide) rfl (fun ls hl => ?_)
    refine lv_goto (tgt := 4) hx hb dX8_countPages_23 (by decide) ?_
    exact ih_1 ((x4_1 + (F_X8_pagesIn PP mp n x4_2)), (x4_2 + 1)) _ _ _ _ _ ⟨lp_up hk_1 c_2, lp_up0 hz_1 c_2, hP, hS, lv_sub hl [0, 1, 2] rfl, hM, rfl, rfl⟩
def B_X8_haveSamePages_3 (PP : List PG) (ds : Nat → Int32) (mp : Nat → Int32) (n : Int32) (a1 : Int32) (a2 : Int32) (a3 : Int32) (rc_3 : Int32 → (Option (Int32) × Int32)) (x3_4 : Int32) : Option (Int32) × Int32 := (if n ≤ x3_4 then (none, x3_4) else (if (ds (ix x3_4)) = a3 then (if (pgd PP (F_X8_pageIn PP mp a1 x3_4)).2.1 = (pgd PP (F_X8_pageIn PP mp a2 x3_4)).2.1 then (rc_3 (x3_4 + 1)) else ((some 0), x3_4)) else (rc_3 (x3_4 + 1))))
def L_X8_haveSamePages_3 (PP : List PG) (ds : Nat → Int32) (mp : Nat → Int32) (n : Int32) (a1 : Int32) (a2 : Int32) (a3 : Int32) : Nat → Int32 → (Option (Int32) × Int32)
  | 0 => fun x3_4 => (none, x3_4)
  | k + 1 => B_X8_haveSamePages_3 PP ds mp n a1 a2 a3 (L_X8_haveSamePages_3 PP ds mp n a1 a2 a3 k)
def K_X8_haveSamePages_3  : (Option (Int32) × Int32) → (Int32)
  | (some r9, _) => r9
  | (none, x3_4) => 1
def F_X8_haveSamePages (PP : List PG) (ds : Nat → Int32) (mp : Nat → Int32) (n : Int32) (a1 : Int32) (a2 : Int32) (a3 : Int32) : Int32 := (K_X8_haveSamePages_3 (L_X8_haveSamePages_3 PP ds mp n a1 a2 a3 (((n : Int32).toInt - (0 : Int32).toInt).toNat + 1) 0))
set_option maxHeartbeats 4000000 in
set_option maxRecDepth 100000 in
theorem c_X8_haveSamePages (l : Launch) (hl0 : l.stackTraces = false) (D : va_G) (ad : Nat → Nat) (sz : Nat) (h_el : Nat) (h_li : Nat) (h_A : Nat) (h_ds : Nat) (h_mp : Nat) (h_S : Nat) (k_el : ClassId) (k_ds : ClassId) (k_mp : ClassId) (h_li_0 : Value) (h_S_2 : Value) (h_S_4 : Value) (h_S_6 : Value) (h_S_7 : Value) (h_S_8 : Value) (h_S_9 : Value) (kI : ClassId) (AL : List (Nat × Nat)) (PP : List PG) (capE : Nat) (ds : Nat → Int32) (mp : Nat → Int32) (n : Int32) (a1 : Int32) (a2 : Int32) (a3 : Int32) (hlen : AL.length = PP.length) (hpos : 0 < PP.length) (hbig : PP.length ≤ 2000000) (hy0 : n.toInt ≤ 6) (hy1 : PP.length ≤ capE) : Met l yX8_haveSamePages wsX8_haveSamePages ({ frames := 5, cells := 0, slots := 0, locals := 117 }) (PR_ D ad ([(h_el, .inl (k_el, capE, .inr (.inr (.inr (.inr (egl AL)))))), (h_li, .inr (4, [h_li_0, .ref h_el, .int (nI PP.length)])), (h_A, .inr (5, [.ref h_li, .ref (pad AL 0)])), (h_ds, .inl (k_ds, 6, .inl ds)), (h_mp, .inl (k_mp, 36, .inl mp)), (h_S, .inr (11, [.ref h_A, .ref h_ds, h_S_2, .ref h_mp, h_S_4, .int n, h_S_6, h_S_7, h_S_8, h_S_9]))] ++ pgl kI AL PP) [(k_el, .object "java/lang/Object"), (k_ds, .int), (k_mp, .int), (kI, .int)] sz [.ref h_S, .int a1, .int a2, .int a3]) (QR_ (.int (F_X8_haveSamePages PP ds mp n a1 a2 a3)) (va_A [] sz)) 0 0 (va_A [] sz) := by
  refine Met.ofW (cc := cX8_haveSamePages) (maxL := 5) (ret := (some .boolean)) (by decide) rfl ?_
  intro p e s m args below meth c s₁ B hml hv
  obtain ⟨rfl, hsz, hP, hK, hF⟩ := hv
  have hx := B.exec
  have hb := B.bytes
  have hr := B.returns
  have hts := atoms_spec (ws := wsX8_haveSamePages) B.pre
  have hown : s.vm.findClass RX8 = some m.cls := findClass_of_methodNamed B.named
  have hlocks := B.notSynchronized
  subst hsz
  generalize hAe : va_A [] s.heap.size = A at hF ⊢
  have hA : ∀ q : Nat, s.heap.size ≤ q → A q := fun q h => by rw [← hAe]; exact Or.inr h
  obtain ⟨H, hHe⟩ : ∃ H : Heap, H = s.heap := ⟨_, rfl⟩
  have hS : va_S A s.heap H [] := by rw [hHe]; exact va_S.rf
  have hP : va_P D vwCl ([(h_el, .inl (k_el, capE, .inr (.inr (.inr (.inr (egl AL)))))), (h_li, .inr (4, [h_li_0, .ref h_el, .int (nI PP.length)])), (h_A, .inr (5, [.ref h_li, .ref (pad AL 0)])), (h_ds, .inl (k_ds, 6, .inl ds)), (h_mp, .inl (k_mp, 36, .inl mp)), (h_S, .inr (11, [.ref h_A, .ref h_ds, h_S_2, .ref h_mp, h_S_4, .int n, h_S_6, h_S_7, h_S_8, h_S_9]))] ++ pgl kI AL PP) H := by rw [hHe]; exact hP
  rw [← hHe]
  have hi_X6 : ∀ w ∈ wsX60, w ∈ wsX8_haveSamePages := by decide +kernel
  have hi_X8 : ∀ w ∈ wsX80, w ∈ wsX8_haveSamePages := by decide +kernel
  have hl := lv_entry [.ref h_S, .int a1, .int a2, .int a3] (n := 5) (Nat.le_of_ble_eq_true rfl)
  rw [lg_entry_eq]
  generalize (lg_sl [.ref h_S, .int a1, .int a2, .int a3] ++ List.replicate (5 - (lg_sl [.ref h_S, .int a1, .int a2, .int a3]).length) Slot.unset).toArray = ls at hl ⊢
  have hl : lv_has ls 5 [(0, .ref h_S), (1, .int a1), (2, .int a2), (3, .int a3)] := hl
  have hM : F_X8_haveSamePages PP ds mp n a1 a2 a3 = (K_X8_haveSamePages_3 (L_X8_haveSamePages_3 PP ds mp n a1 a2 a3 (((n : Int32).toInt - (0 : Int32).toInt).toNat + 1) 0)) := rfl
  refine lv_iconst (v := 0) hx hb dX8_haveSamePages_0 (by decide) ?_
  refine lv_istore (lv' := [(4, .int 0), (0, .ref h_S), (1, .int a1), (2, .int a2), (3, .int a3)]) hx hb dX8_haveSamePages_1 hl (by decide) rfl (fun ls hl => ?_)
  refine lpW (τ := Int32) (fun k t H locs ls c9 s9 => ((n : Int32).toInt - (t : Int32).toInt).toNat < k ∧ 0 ≤ (t : Int32).toInt ∧ va_P D vwCl ([(h_el, .inl (k_el, capE, .inr (.inr (.inr (.inr (egl AL)))))), (h_li, .inr (4, [h_li_0, .ref h_el, .int (nI PP.length)])), (h_A, .inr (5, [.ref h_li, .ref (pad AL 0)])), (h_ds, .inl (k_ds, 6, .inl ds)), (h_mp, .inl (k_mp, 36, .inl mp)), (h_S, .inr (11, [.ref h_A, .ref h_ds, h_S_2, .ref h_mp, h_S_4, .int n, h_S_6, h_S_7, h_S_8, h_S_9]))] ++ pgl kI AL PP) H ∧ va_S A s.heap H locs ∧ lv_has ls 5 [(4, .int t), (0, .ref h_S), (1, .int a1), (2, .int a2), (3, .int a3)] ∧ F_X8_haveSamePages PP ds mp n a1 a2 a3 = (K_X8_haveSamePages_3 (L_X8_haveSamePages_3 PP ds mp n a1 a2 a3 k t)) ∧ c9 = 0 ∧ s9 = 0) (fun t H locs ls c9 s9 h9 => absurd h9.1 (Nat.not_lt_zero _)) (fun k_1 ih t H locs ls c9 s9 hI => ?_) (((n : Int32).toInt - (0 : Int32).toInt).toNat + 1) 0 ⟨Nat.lt_succ_self _, (show 0 ≤ (0 : Int32).toInt from (by decide +kernel)), hP, hS, (by exact hl), hM, rfl, rfl⟩
  obtain ⟨x3_4, hx9⟩ : ∃ x9, x9 = t := ⟨t, rfl⟩
  subst hx9
  obtain ⟨hk_1, hz_1, hP, hS, hl, hM, hcs, hss⟩ := hI
  replace hcs := hcs.symm
  subst hcs
  replace hss := hss.symm
  subst hss
  have hP : va_P D vwCl ([(h_el, .inl (k_el, capE, .inr (.inr (.inr (.inr (egl AL)))))), (h_li, .inr (4, [h_li_0, .ref h_el, .int (nI PP.length)])), (h_A, .inr (5, [.ref h_li, .ref (pad AL 0)])), (h_ds, .inl (k_ds, 6, .inl ds)), (h_mp, .inl (k_mp, 36, .inl mp)), (h_S, .inr (11, [.ref h_A, .ref h_ds, h_S_2, .ref h_mp, h_S_4, .int n, h_S_6, h_S_7, h_S_8, h_S_9]))] ++ pgl kI AL PP) H := hP
  have hl : lv_has ls 5 [(4, .int x3_4), (0, .ref h_S), (1, .int a1), (2, .int a2), (3, .int a3)] := hl
  have hz_1 : 0 ≤ (x3_4 : Int32).toInt := hz_1
  have hk_1 : ((n : Int32).toInt - (x3_4 : Int32).toInt).toNat < k_1 + 1 := hk_1
  have hM : F_X8_haveSamePages PP ds mp n a1 a2 a3 = (K_X8_haveSamePages_3 ((if n ≤ x3_4 then (none, x3_4) else (if (ds (ix x3_4)) = a3 then (if (pgd PP (F_X8_pageIn PP mp a1 x3_4)).2.1 = (pgd PP (F_X8_pageIn PP mp a2 x3_4)).2.1 then ((L_X8_haveSamePages_3 PP ds mp n a1 a2 a3 k_1) (x3_4 + 1)) else ((some 0), x3_4)) else ((L_X8_haveSamePages_3 PP ds mp n a1 a2 a3 k_1) (x3_4 + 1)))))) := hM
  have ih_1 := ih
  refine lv_iload hx hb dX8_haveSamePages_3 (lv_at hl 0 rfl) ?_
  refine lv_aload_n hx hb dX8_haveSamePages_5 rfl (lv_at hl 1 rfl) ?_
  refine va_get (D := D) (ci := 11) (v := .int n) (own := RX8) (C := RX8) (T := TX8) (N := 10) hx hb hts hi_X8 hown hK hP 5 rfl rfl 5 (by decide) (hts (.fieldLink RX8 28 "CanalMaps$Survey" "surveyors" "I") (List.mem_of_getElem? (i := 1) (by decide +kernel))) (fun _ h9 => h9) rfl dX8_haveSamePages_6 ?_
  refine lv_icmp_ge (tgt := 54) hx hb dX8_haveSamePages_9 (by decide) (fun c_2 => ?_) (fun c_2 => ?_)
  · rw [if_pos c_2] at hM
    have hM : F_X8_haveSamePages PP ds mp n a1 a2 a3 = 1 := hM
    refine lv_iconst (v := 1) hx hb dX8_haveSamePages_54 (by decide) ?_
    refine W.widen (k := 0) (n := 0) (Nat.le_of_ble_eq_true rfl) (Nat.le_of_ble_eq_true rfl) ?_
    exact W.zret (v := 1) hx hb hr rfl (QR_.mk hS (by rw [hM])) hS.2.2 dX8_haveSamePages_55
  · rw [if_neg c_2] at hM
    refine lv_aload_n hx hb dX8_haveSamePages_12 rfl (lv_at hl 1 rfl) ?_
    refine va_get (D := D) (ci := 11) (v := .ref h_ds) (own := RX8) (C := RX8) (T := TX8) (N := 10) hx hb hts hi_X8 hown hK hP 5 rfl rfl 1 (by decide) (hts (.fieldLink RX8 9 "CanalMaps$Survey" "districts" "[I") (List.mem_of_getElem? (i := 2) (by decide +kernel))) (fun _ h9 => h9) rfl dX8_haveSamePages_13 ?_
    refine lv_iload hx hb dX8_haveSamePages_16 (lv_at hl 0 rfl) ?_
    refine va_iald hx hb hK hP 3 1 rfl rfl (vinI (by have y0 := f_nle c_2; have z0 := hy0; have z1 := hy1; have z2 := hz_1; have b9 := Int32.toInt_lt (x3_4); have d9 := Int32.le_toInt (x3_4); have q_len := hlen; have q_pos := hpos; have q_big := hbig; have q_n := nI_toInt (n := PP.length) (by omega); omega) (by have y0 := f_nle c_2; have z0 := hy0; have z1 := hy1; have z2 := hz_1; have b9 := Int32.toInt_lt (x3_4); have d9 := Int32.le_toInt (x3_4); have q_len := hlen; have q_pos := hpos; have q_big := hbig; have q_n := nI_toInt (n := PP.length) (by omega); omega)) dX8_haveSamePages_18 ?_
    refine kt_ (v := (ds (ix x3_4))) rfl ?_
    refine lv_iload_n hx hb dX8_haveSamePages_19 rfl (lv_at hl 4 rfl) ?_
    refine lv_icmp_ne (tgt := 48) hx hb dX8_haveSamePages_20 (by decide) (fun c_3 => ?_) (fun c_3 => ?_)
    · rw [if_neg c_3] at hM
      refine lv_iinc (v := (x3_4 + 1)) (lv' := [(4, .int (x3_4 + 1)), (0, .ref h_S), (1, .int a1), (2, .int a2), (3, .int a3)]) hx hb dX8_haveSamePages_48 hl (k := 0) rfl rfl (by decide) rfl (fun ls hl => ?_)
      refine lv_goto (tgt := 3) hx hb dX8_haveSamePages_51 (by decide) ?_
      exact ih_1 (x3_4 + 1) _ _ _ _ _ ⟨lp_up hk_1 c_2, lp_up0 hz_1 c_2, hP, hS, lv_sub hl [0, 1, 2, 3, 4] rfl, hM, rfl, rfl⟩
    · rw [if_pos c_3] at hM
      refine lv_aload_n hx hb dX8_haveSamePages_23 rfl (lv_at hl 1 rfl) ?_
      refine lv_iload_n hx hb dX8_haveSamePages_24 rfl (lv_at hl 2 rfl) ?_
      refine lv_iload hx hb dX8_haveSamePages_25 (lv_at hl 0 rfl) ?_
      obtain ⟨y9, hy9⟩ : ∃ y9, (F_X8_pageIn PP mp a1 x3_4) = y9 := ⟨_, rfl⟩
      have hcon := (c_X8_pageIn l hl0 D ad H.size h_el h_li h_A h_mp h_S k_el k_mp (h_li_0) (.ref h_ds) (h_S_2) (h_S_4) (.int n) (h_S_6) (h_S_7) (h_S_8) (h_S_9) kI AL PP capE mp a1 x3_4 hlen hpos hbig (by have y0 := f_nle c_2; have y1 := f_eq c_3; have z0 := hy0; have z1 := hy1; have z2 := hz_1; have x0 := ix_toNat x3_4; have q_len := hlen; have q_pos := hpos; have q_big := hbig; have q_n := nI_toInt (n := PP.length) (by omega); omega))
      rw [hy9] at hcon
      refine kr_ (va_runV (As := [.int a1, .int x3_4]) (rest := []) ⟨hx, hb, hml, hown, hts⟩ hcon (cwV 2 hts gX8_haveSamePages_X8_pageIn rfl rfl rfl (by decide +kernel) ⟨Nat.le_of_ble_eq_true rfl, Nat.le_of_ble_eq_true rfl⟩) ⟨PR_.blind, va_recv hK hP (ci := 11) (q0 := 5) rfl rfl, PR_.pre hF hK (hP.part [0, 1, 2, 4, 5] rfl) hS hA [0, 2, 3] rfl⟩ rfl rfl hl.1 rfl (lv_room (Nat.le_of_ble_eq_true rfl)) dX8_haveSamePages_27 ⟨(Nat.le_of_ble_eq_true rfl), (Nat.le_of_ble_eq_true rfl)⟩) hP hS hA (fun H locs hP hS => ?_)
      subst hy9
      refine W.eq (g2 := F0 m 30 ls [.ref (pad AL (F_X8_pageIn PP mp a1 x3_4))]) rfl ?_
      have hPg := pgw (k := (F_X8_pageIn PP mp a1 x3_4)) hP hlen (by have y0 := f_nle c_2; have y1 := f_eq c_3; have z0 := hy0; have z1 := hy1; have z2 := hz_1; have rn_X8_pageIn := R_X8_pageIn PP mp a1 x3_4 hpos hbig; have x0 := ix_toNat x3_4; have q_len := hlen; have q_pos := hpos; have q_big := hbig; have q_n := nI_toInt (n := PP.length) (by omega); omega)
      refine va_getN (D := D) (ci := 9) (v := .int (pgd PP (F_X8_pageIn PP mp a1 x3_4)).2.1) (own := RX8) (C := RX6) (T := TX6) (N := 4) hx hb hts hi_X6 hown hK hPg 0 rfl rfl 1 (by decide) (fxn_ hF (RX8, 105, "CanalMaps$Page", "serial", "I")) (fun _ h9 => h9) rfl dX8_haveSamePages_30 ?_
      refine lv_aload_n hx hb dX8_haveSamePages_33 rfl (lv_at hl 1 rfl) ?_
      refine lv_iload_n hx hb dX8_haveSamePages_34 rfl (lv_at hl 3 rfl) ?_
      refine lv_iload hx hb dX8_haveSamePages_35 (lv_at hl 0 rfl) ?_
      obtain ⟨y9, hy9⟩ : ∃ y9, (F_X8_pageIn PP mp a2 x3_4) = y9 := ⟨_, rfl⟩
      have hcon := (c_X8_pageIn l hl0 D ad H.size h_el h_li h_A h_mp h_S k_el k_mp (h_li_0) (.ref h_ds) (h_S_2) (h_S_4) (.int n) (h_S_6) (h_S_7) (h_S_8) (h_S_9) kI AL PP capE mp a2 x3_4 hlen hpos hbig (by have y0 := f_nle c_2; have y1 := f_eq c_3; have z0 := hy0; have z1 := hy1; have z2 := hz_1; have x0 := ix_toNat x3_4; have q_len := hlen; have q_pos := hpos; have q_big := hbig; have q_n := nI_toInt (n := PP.length) (by omega); omega))
      rw [hy9] at hcon
      refine kr_ (va_runV (As := [.int a2, .int x3_4]) (rest := [.int (pgd PP (F_X8_pageIn PP mp a1 x3_4)).2.1]) ⟨hx, hb, hml, hown, hts⟩ hcon (cwV 2 hts gX8_haveSamePages_X8_pageIn rfl rfl rfl (by decide +kernel) ⟨Nat.le_of_ble_eq_true rfl, Nat.le_of_ble_eq_true rfl⟩) ⟨PR_.blind, va_recv hK hP (ci := 11) (q0 := 5) rfl rfl, PR_.pre hF hK (hP.part [0, 1, 2, 4, 5] rfl) hS hA [0, 2, 3] rfl⟩ rfl rfl hl.1 rfl (lv_room (Nat.le_of_ble_eq_true rfl)) dX8_haveSamePages_37 ⟨(Nat.le_of_ble_eq_true rfl), (Nat.le_of_ble_eq_true rfl)⟩) hP hS hA (fun H locs hP hS => ?_)
      subst hy9
      refine W.eq (g2 := F0 m 40 ls [.ref (pad AL (F_X8_pageIn PP mp a2 x3_4)), .int (pgd PP (F_X8_pageIn PP mp a1 x3_4)).2.1]) rfl ?_
      have hPg := pgw (k := (F_X8_pageIn PP mp a2 x3_4)) hP hlen (by have y0 := f_nle c_2; have y1 := f_eq c_3; have z0 := hy0; have z1 := hy1; have z2 := hz_1; have rn_X8_pageIn := R_X8_pageIn PP mp a2 x3_4 hpos hbig; have x0 := ix_toNat x3_4; have q_len := hlen; have q_pos := hpos; have q_big := hbig; have q_n := nI_toInt (n := PP.length) (by omega); omega)
      refine va_getN (D := D) (ci := 9) (v := .int (pgd PP (F_X8_pageIn PP mp a2 x3_4)).2.1) (own := RX8) (C := RX6) (T := TX6) (N := 4) hx hb hts hi_X6 hown hK hPg 0 rfl rfl 1 (by decide) (fxn_ hF (RX8, 105, "CanalMaps$Page", "serial", "I")) (fun _ h9 => h9) rfl dX8_haveSamePages_40 ?_
      refine lv_icmp_eq (tgt := 48) hx hb dX8_haveSamePages_43 (by decide) (fun c_6 => ?_) (fun c_6 => ?_)
      · rw [if_pos c_6] at hM
        refine lv_iinc (v := (x3_4 + 1)) (lv' := [(4, .int (x3_4 + 1)), (0, .ref h_S), (1, .int a1), (2, .int a2), (3, .int a3)]) hx hb dX8_haveSamePages_48 hl (k := 0) rfl rfl (by decide) rfl (fun ls hl => ?_)
        refine lv_goto (tgt := 3) hx hb dX8_haveSamePages_51 (by decide) ?_
        exact ih_1 (x3_4 + 1) _ _ _ _ _ ⟨lp_up hk_1 c_2, lp_up0 hz_1 c_2, hP, hS, lv_sub hl [0, 1, 2, 3, 4] rfl, hM, rfl, rfl⟩
      · rw [if_neg c_6] at hM
        have hM : F_X8_haveSamePages PP ds mp n a1 a2 a3 = 0 := hM
        refine lv_iconst (v := 0) hx hb dX8_haveSamePages_46 (by decide) ?_
        refine W.widen (k := 0) (n := 0) (Nat.le_of_ble_eq_true rfl) (Nat.le_of_ble_eq_true rfl) ?_
        exact W.zret (v := 0) hx hb hr rfl (QR_.mk hS (by rw [hM])) hS.2.2 dX8_haveSamePages_47
def B_X8_allHaveGreatest_49 (PP : List PG) (ds : Nat → Int32) (mp : Nat → Int32) (n : Int32) (a1 : Int32) (a2 : Int32) (x5_3 : Int32) (rc_49 : Int32 → (Option (Int32) × Int32)) (x49_4 : Int32) : Option (Int32) × Int32 := (if n ≤ x49_4 then (none, x49_4) else (if (ds (ix x49_4)) = a2 then (if x5_3 ≤ (pgd PP (F_X8_pageIn PP mp x49_4 a1)).2.1 then (rc_49 (x49_4 + 1)) else ((some 0), x49_4)) else (rc_49 (x49_4 + 1))))
def L_X8_allHaveGreatest_49 (PP : List PG) (ds : Nat → Int32) (mp : Nat → Int32) (n : Int32) (a1 : Int32) (a2 : Int32) (x5_3 : Int32) : Nat → Int32 → (Option (Int32) × Int32)
  | 0 => fun x49_4 => (none, x49_4)
  | k + 1 => B_X8_allHaveGreatest_49 PP ds mp n a1 a2 x5_3 (L_X8_allHaveGreatest_49 PP ds mp n a1 a2 x5_3 k)
def K_X8_allHaveGreatest_49  : (Option (Int32) × Int32) → (Int32)
  | (some r9, _) => r9
  | (none, x49_4) => 1
def B_X8_allHaveGreatest_5 (PP : List PG) (ds : Nat → Int32) (mp : Nat → Int32) (n : Int32) (a1 : Int32) (a2 : Int32) (rc_5 : Int32 → Int32 → (Int32 × Int32)) (x5_3 : Int32) (x5_4 : Int32) : Int32 × Int32 := (if n ≤ x5_4 then (x5_3, x5_4) else (if (ds (ix x5_4)) = a2 then (rc_5 (axI x5_3 ((pgd PP (F_X8_pageIn PP mp x5_4 a1)).2.1)) (x5_4 + 1)) else (rc_5 x5_3 (x5_4 + 1))))
def L_X8_allHaveGreatest_5 (PP : List PG) (ds : Nat → Int32) (mp : Nat → Int32) (n : Int32) (a1 : Int32) (a2 : Int32) : Nat → Int32 → Int32 → (Int32 × Int32)
  | 0 => fun x5_3 x5_4 => (x5_3, x5_4)
  | k + 1 => B_X8_allHaveGreatest_5 PP ds mp n a1 a2 (L_X8_allHaveGreatest_5 PP ds mp n a1 a2 k)
def K_X8_allHaveGreatest_5 (PP : List PG) (ds : Nat → Int32) (mp : Nat → Int32) (n : Int32) (a1 : Int32) (a2 : Int32) : (Int32 × Int32) → (Int32)
  | (x5_3, x5_4) => (K_X8_allHaveGreatest_49 (L_X8_allHaveGreatest_49 PP ds mp n a1 a2 x5_3 (((n : Int32).toInt - (0 : Int32).toInt).toNat + 1) 0))
def F_X8_allHaveGreatest (PP : List PG) (ds : Nat → Int32) (mp : Nat → Int32) (n : Int32) (a1 : Int32) (a2 : Int32) : Int32 := (K_X8_allHaveGreatest_5 PP ds mp n a1 a2 (L_X8_allHaveGreatest_5 PP ds mp n a1 a2 (((n : Int32).toInt - (0 : Int32).toInt).toNat + 1) 0 0))
set_option maxHeartbeats 4000000 in
set_option maxRecDepth 100000 in
theorem c_X8_allHaveGreatest (l : Launch) (hl0 : l.stackTraces = false) (D : va_G) (ad : Nat → Nat) (sz : Nat) (h_el : Nat) (h_li : Nat) (h_A : Nat) (h_ds : Nat) (h_mp : Nat) (h_S : Nat) (k_el : ClassId) (k_ds : ClassId) (k_mp : ClassId) (h_li_0 : Value) (h_S_2 : Value) (h_S_4 : Value) (h_S_6 : Value) (h_S_7 : Value) (h_S_8 : Value) (h_S_9 : Value) (kI : ClassId) (AL : List (Nat × Nat)) (PP : List PG) (capE : Nat) (ds : Nat → Int32) (mp : Nat → Int32) (n : Int32) (a1 : Int32) (a2 : Int32) (hlen : AL.length = PP.length) (hpos : 0 < PP.length) (hbig : PP.length ≤ 2000000) (hy0 : n.toInt ≤ 6) (hy1 : PP.length ≤ capE) : Met l yX8_allHaveGreatest wsX8_allHaveGreatest ({ frames := 5, cells := 0, slots := 0, locals := 117 }) (PR_ D ad ([(h_el, .inl (k_el, capE, .inr (.inr (.inr (.inr (egl AL)))))), (h_li, .inr (4, [h_li_0, .ref h_el, .int (nI PP.length)])), (h_A, .inr (5, [.ref h_li, .ref (pad AL 0)])), (h_ds, .inl (k_ds, 6, .inl ds)), (h_mp, .inl (k_mp, 36, .inl mp)), (h_S, .inr (11, [.ref h_A, .ref h_ds, h_S_2, .ref h_mp, h_S_4, .int n, h_S_6, h_S_7, h_S_8, h_S_9]))] ++ pgl kI AL PP) [(k_el, .object "java/lang/Object"), (k_ds, .int), (k_mp, .int), (kI, .int)] sz [.ref h_S, .int a1, .int a2]) (QR_ (.int (F_X8_allHaveGreatest PP ds mp n a1 a2)) (va_A [] sz)) 0 0 (va_A [] sz) := by
  refine Met.ofW (cc := cX8_allHaveGreatest) (maxL := 5) (ret := (some .boolean)) (by decide) rfl ?_
  intro p e s m args below meth c s₁ B hml hv
  obtain ⟨rfl, hsz, hP, hK, hF⟩ := hv
  have hx := B.exec
  have hb := B.bytes
  have hr := B.returns
  have hts := atoms_spec (ws := wsX8_allHaveGreatest) B.pre
  have hown : s.vm.findClass RX8 = some m.cls := findClass_of_methodNamed B.named
  have hlocks := B.notSynchronized
  subst hsz
  generalize hAe : va_A [] s.heap.size = A at hF ⊢
  have hA : ∀ q : Nat, s.heap.size ≤ q → A q := fun q h => by rw [← hAe]; exact Or.inr h
  obtain ⟨H, hHe⟩ : ∃ H : Heap, H = s.heap := ⟨_, rfl⟩
  have hS : va_S A s.heap H [] := by rw [hHe]; exact va_S.rf
  have hP : va_P D vwCl ([(h_el, .inl (k_el, capE, .inr (.inr (.inr (.inr (egl AL)))))), (h_li, .inr (4, [h_li_0, .ref h_el, .int (nI PP.length)])), (h_A, .inr (5, [.ref h_li, .ref (pad AL 0)])), (h_ds, .inl (k_ds, 6, .inl ds)), (h_mp, .inl (k_mp, 36, .inl mp)), (h_S, .inr (11, [.ref h_A, .ref h_ds, h_S_2, .ref h_mp, h_S_4, .int n, h_S_6, h_S_7, h_S_8, h_S_9]))] ++ pgl kI AL PP) H := by rw [hHe]; exact hP
  rw [← hHe]
  have hi_X6 : ∀ w ∈ wsX60, w ∈ wsX8_allHaveGreatest := by decide +kernel
  have hi_X8 : ∀ w ∈ wsX80, w ∈ wsX8_allHaveGreatest := by decide +kernel
  have hl := lv_entry [.ref h_S, .int a1, .int a2] (n := 5) (Nat.le_of_ble_eq_true rfl)
  rw [lg_entry_eq]
  generalize (lg_sl [.ref h_S, .int a1, .int a2] ++ List.replicate (5 - (lg_sl [.ref h_S, .int a1, .int a2]).length) Slot.unset).toArray = ls at hl ⊢
  have hl : lv_has ls 5 [(0, .ref h_S), (1, .int a1), (2, .int a2)] := hl
  have hM : F_X8_allHaveGreatest PP ds mp n a1 a2 = (K_X8_allHaveGreatest_5 PP ds mp n a1 a2 (L_X8_allHaveGreatest_5 PP ds mp n a1 a2 (((n : Int32).toInt - (0 : Int32).toInt).toNat + 1) 0 0)) := rfl
  refine lv_iconst (v := 0) hx hb dX8_allHaveGreatest_0 (by decide) ?_
  refine lv_istore_n (lv' := [(3, .int 0), (0, .ref h_S), (1, .int a1), (2, .int a2)]) hx hb dX8_allHaveGreatest_1 rfl hl (by decide) rfl (fun ls hl => ?_)
  refine lv_iconst (v := 0) hx hb dX8_allHaveGreatest_2 (by decide) ?_
  refine lv_istore (lv' := [(4, .int 0), (3, .int 0), (0, .ref h_S), (1, .int a1), (2, .int a2)]) hx hb dX8_allHaveGreatest_3 hl (by decide) rfl (fun ls hl => ?_)
  refine lpW (τ := Int32 × Int32) (fun k t H locs ls c9 s9 => ((n : Int32).toInt - (t.2 : Int32).toInt).toNat < k ∧ 0 ≤ (t.2 : Int32).toInt ∧ va_P D vwCl ([(h_el, .inl (k_el, capE, .inr (.inr (.inr (.inr (egl AL)))))), (h_li, .inr (4, [h_li_0, .ref h_el, .int (nI PP.length)])), (h_A, .inr (5, [.ref h_li, .ref (pad AL 0)])), (h_ds, .inl (k_ds, 6, .inl ds)), (h_mp, .inl (k_mp, 36, .inl mp)), (h_S, .inr (11, [.ref h_A, .ref h_ds, h_S_2, .ref h_mp, h_S_4, .int n, h_S_6, h_S_7, h_S_8, h_S_9]))] ++ pgl kI AL PP) H ∧ va_S A s.heap H locs ∧ lv_has ls 5 [(4, .int t.2), (3, .int t.1), (0, .ref h_S), (1, .int a1), (2, .int a2)] ∧ F_X8_allHaveGreatest PP ds mp n a1 a2 = (K_X8_allHaveGreatest_5 PP ds mp n a1 a2 (L_X8_allHaveGreatest_5 PP ds mp n a1 a2 k t.1 t.2)) ∧ c9 = 0 ∧ s9 = 0) (fun t H locs ls c9 s9 h9 => absurd h9.1 (Nat.not_lt_zero _)) (fun k_1 ih t H locs ls c9 s9 hI => ?_) (((n : Int32).toInt - (0 : Int32).toInt).toNat + 1) (0, 0) ⟨Nat.lt_succ_self _, (show 0 ≤ (0 : Int32).toInt from (by decide +kernel)), hP, hS, (by exact hl), hM, rfl, rfl⟩
  obtain ⟨x5_3, x5_4⟩ := t
  obtain ⟨hk_1, hz_1, hP, hS, hl, hM, hcs, hss⟩ := hI
  replace hcs := hcs.symm
  subst hcs
  replace hss := hss.symm
  subst hss
  have hP : va_P D vwCl ([(h_el, .inl (k_el, capE, .inr (.inr (.inr (.inr (egl AL)))))), (h_li, .inr (4, [h_li_0, .ref h_el, .int (nI PP.length)])), (h_A, .inr (5, [.ref h_li, .ref (pad AL 0)])), (h_ds, .inl (k_ds, 6, .inl ds)), (h_mp, .inl (k_mp, 36, .inl mp)), (h_S, .inr (11, [.ref h_A, .ref h_ds, h_S_2, .ref h_mp, h_S_4, .int n, h_S_6, h_S_7, h_S_8, h_S_9]))] ++ pgl kI AL PP) H := hP
  have hl : lv_has ls 5 [(4, .int x5_4), (3, .int x5_3), (0, .ref h_S), (1, .int a1), (2, .int a2)] := hl
  have hz_1 : 0 ≤ (x5_4 : Int32).toInt := hz_1
  have hk_1 : ((n : Int32).toInt - (x5_4 : Int32).toInt).toNat < k_1 + 1 := hk_1
  have hM : F_X8_allHaveGreatest PP ds mp n a1 a2 = (K_X8_allHaveGreatest_5 PP ds mp n a1 a2 ((if n ≤ x5_4 then (x5_3, x5_4) else (if (ds (ix x5_4)) = a2 then ((L_X8_allHaveGreatest_5 PP ds mp n a1 a2 k_1) (axI x5_3 ((pgd PP (F_X8_pageIn PP mp x5_4 a1)).2.1)) (x5_4 + 1)) else ((L_X8_allHaveGreatest_5 PP ds mp n a1 a2 k_1) x5_3 (x5_4 + 1)))))) := hM
  have ih_1 := ih
  refine lv_iload hx hb dX8_allHaveGreatest_5 (lv_at hl 0 rfl) ?_
  refine lv_aload_n hx hb dX8_allHaveGreatest_7 rfl (lv_at hl 2 rfl) ?_
  refine va_get (D := D) (ci := 11) (v := .int n) (own := RX8) (C := RX8) (T := TX8) (N := 10) hx hb hts hi_X8 hown hK hP 5 rfl rfl 5 (by decide) (hts (.fieldLink RX8 28 "CanalMaps$Survey" "surveyors" "I") (List.mem_of_getElem? (i := 1) (by decide +kernel))) (fun _ h9 => h9) rfl dX8_allHaveGreatest_8 ?_
  refine lv_icmp_ge (tgt := 46) hx hb dX8_allHaveGreatest_11 (by decide) (fun c_2 => ?_) (fun c_2 => ?_)
  · rw [if_pos c_2] at hM
    have hM : F_X8_allHaveGreatest PP ds mp n a1 a2 = (K_X8_allHaveGreatest_49 (L_X8_allHaveGreatest_49 PP ds mp n a1 a2 x5_3 (((n : Int32).toInt - (0 : Int32).toInt).toNat + 1) 0)) := hM
    refine lv_iconst (v := 0) hx hb dX8_allHaveGreatest_46 (by decide) ?_
    refine lv_istore (lv' := [(4, .int 0), (3, .int x5_3), (0, .ref h_S), (1, .int a1), (2, .int a2)]) hx hb dX8_allHaveGreatest_47 hl (by decide) rfl (fun ls hl => ?_)
    refine lpW (τ := Int32) (fun k t H locs ls c9 s9 => ((n : Int32).toInt - (t : Int32).toInt).toNat < k ∧ 0 ≤ (t : Int32).toInt ∧ va_P D vwCl ([(h_el, .inl (k_el, capE, .inr (.inr (.inr (.inr (egl AL)))))), (h_li, .inr (4, [h_li_0, .ref h_el, .int (nI PP.length)])), (h_A, .inr (5, [.ref h_li, .ref (pad AL 0)])), (h_ds, .inl (k_ds, 6, .inl ds)), (h_mp, .inl (k_mp, 36, .inl mp)), (h_S, .inr (11, [.ref h_A, .ref h_ds, h_S_2, .ref h_mp, h_S_4, .int n, h_S_6, h_S_7, h_S_8, h_S_9]))] ++ pgl kI AL PP) H ∧ va_S A s.heap H locs ∧ lv_has ls 5 [(4, .int t), (3, .int x5_3), (0, .ref h_S), (1, .int a1), (2, .int a2)] ∧ F_X8_allHaveGreatest PP ds mp n a1 a2 = (K_X8_allHaveGreatest_49 (L_X8_allHaveGreatest_49 PP ds mp n a1 a2 x5_3 k t)) ∧ c9 = 0 ∧ s9 = 0) (fun t H locs ls c9 s9 h9 => absurd h9.1 (Nat.not_lt_zero _)) (fun k_3 ih t H locs ls c9 s9 hI => ?_) (((n : Int32).toInt - (0 : Int32).toInt).toNat + 1) 0 ⟨Nat.lt_succ_self _, (show 0 ≤ (0 : Int32).toInt from (by decide +kernel)), hP, hS, (by exact hl), hM, rfl, rfl⟩
    obtain ⟨x49_4, hx9⟩ : ∃ x9, x9 = t := ⟨t, rfl⟩
    subst hx9
    obtain ⟨hk_3, hz_3, hP, hS, hl, hM, hcs, hss⟩ := hI
    replace hcs := hcs.symm
    subst hcs
    replace hss := hss.symm
    subst hss
    have hP : va_P D vwCl ([(h_el, .inl (k_el, capE, .inr (.inr (.inr (.inr (egl AL)))))), (h_li, .inr (4, [h_li_0, .ref h_el, .int (nI PP.length)])), (h_A, .inr (5, [.ref h_li, .ref (pad AL 0)])), (h_ds, .inl (k_ds, 6, .inl ds)), (h_mp, .inl (k_mp, 36, .inl mp)), (h_S, .inr (11, [.ref h_A, .ref h_ds, h_S_2, .ref h_mp, h_S_4, .int n, h_S_6, h_S_7, h_S_8, h_S_9]))] ++ pgl kI AL PP) H := hP
    have hl : lv_has ls 5 [(4, .int x49_4), (3, .int x5_3), (0, .ref h_S), (1, .int a1), (2, .int a2)] := hl
    have hz_3 : 0 ≤ (x49_4 : Int32).toInt := hz_3
    have hk_3 : ((n : Int32).toInt - (x49_4 : Int32).toInt).toNat < k_3 + 1 := hk_3
    have hM : F_X8_allHaveGreatest PP ds mp n a1 a2 = (K_X8_allHaveGreatest_49 ((if n ≤ x49_4 then (none, x49_4) else (if (ds (ix x49_4)) = a2 then (if x5_3 ≤ (pgd PP (F_X8_pageIn PP mp x49_4 a1)).2.1 then ((L_X8_allHaveGreatest_49 PP ds mp n a1 a2 x5_3 k_3) (x49_4 + 1)) else ((some 0), x49_4)) else ((L_X8_allHaveGreatest_49 PP ds mp n a1 a2 x5_3 k_3) (x49_4 + 1)))))) := hM
    have ih_3 := ih
    refine lv_iload hx hb dX8_allHaveGreatest_49 (lv_at hl 0 rfl) ?_
    refine lv_aload_n hx hb dX8_allHaveGreatest_51 rfl (lv_at hl 2 rfl) ?_
    refine va_get (D := D) (ci := 11) (v := .int n) (own := RX8) (C := RX8) (T := TX8) (N := 10) hx hb hts hi_X8 hown hK hP 5 rfl rfl 5 (by decide) (hts (.fieldLink RX8 28 "CanalMaps$Survey" "surveyors" "I") (List.mem_of_getElem? (i := 1) (by decide +kernel))) (fun _ h9 => h9) rfl dX8_allHaveGreatest_52 ?_
    refine lv_icmp_ge (tgt := 91) hx hb dX8_allHaveGreatest_55 (by decide) (fun c_4 => ?_) (fun c_4 => ?_)
    · rw [if_pos c_4] at hM
      have hM : F_X8_allHaveGreatest PP ds mp n a1 a2 = 1 := hM
      refine lv_iconst (v := 1) hx hb dX8_allHaveGreatest_91 (by decide) ?_
      refine W.widen (k := 0) (n := 0) (Nat.le_of_ble_eq_true rfl) (Nat.le_of_ble_eq_true rfl) ?_
      exact W.zret (v := 1) hx hb hr rfl (QR_.mk hS (by rw [hM])) hS.2.2 dX8_allHaveGreatest_92
    · rw [if_neg c_4] at hM
      refine lv_aload_n hx hb dX8_allHaveGreatest_58 rfl (lv_at hl 2 rfl) ?_
      refine va_get (D := D) (ci := 11) (v := .ref h_ds) (own := RX8) (C := RX8) (T := TX8) (N := 10) hx hb hts hi_X8 hown hK hP 5 rfl rfl 1 (by decide) (hts (.fieldLink RX8 9 "CanalMaps$Survey" "districts" "[I") (List.mem_of_getElem? (i := 2) (by decide +kernel))) (fun _ h9 => h9) rfl dX8_allHaveGreatest_59 ?_
      refine lv_iload hx hb dX8_allHaveGreatest_62 (lv_at hl 0 rfl) ?_
      refine va_iald hx hb hK hP 3 1 rfl rfl (vinI (by have y0 := f_le c_2; have y1 := f_nle c_4; have z0 := hy0; have z1 := hy1; have z2 := hz_1; have z3 := hz_3; have b21 := Int32.toInt_lt (x49_4); have d21 := Int32.le_toInt (x49_4); have q_len := hlen; have q_pos := hpos; have q_big := hbig; have q_n := nI_toInt (n := PP.length) (by omega); omega) (by have y0 := f_le c_2; have y1 := f_nle c_4; have z0 := hy0; have z1 := hy1; have z2 := hz_1; have z3 := hz_3; have b21 := Int32.toInt_lt (x49_4); have d21 := Int32.le_toInt (x49_4); have q_len := hlen; have q_pos := hpos; have q_big := hbig; have q_n := nI_toInt (n := PP.length) (by omega); omega)) dX8_allHaveGreatest_64 ?_
      refine kt_ (v := (ds (ix x49_4))) rfl ?_
      refine lv_iload_n hx hb dX8_allHaveGreatest_65 rfl (lv_at hl 4 rfl) ?_
      refine lv_icmp_ne (tgt := 85) hx hb dX8_allHaveGreatest_66 (by decide) (fun c_5 => ?_) (fun c_5 => ?_)
      · rw [if_neg c_5] at hM
        refine lv_iinc (v := (x49_4 + 1)) (lv' := [(4, .int (x49_4 + 1)), (3, .int x5_3), (0, .ref h_S), (1, .int a1), (2, .int a2)]) hx hb dX8_allHaveGreatest_85 hl (k := 0) rfl rfl (by decide) rfl (fun ls hl => ?_)
        refine lv_goto (tgt := 49) hx hb dX8_allHaveGreatest_88 (by decide) ?_
        exact ih_3 (x49_4 + 1) _ _ _ _ _ ⟨lp_up hk_3 c_4, lp_up0 hz_3 c_4, hP, hS, lv_sub hl [0, 1, 2, 3, 4] rfl, hM, rfl, rfl⟩
      · rw [if_pos c_5] at hM
        refine lv_aload_n hx hb dX8_allHaveGreatest_69 rfl (lv_at hl 2 rfl) ?_
        refine lv_iload hx hb dX8_allHaveGreatest_70 (lv_at hl 0 rfl) ?_
        refine lv_iload_n hx hb dX8_allHaveGreatest_72 rfl (lv_at hl 3 rfl) ?_
        obtain ⟨y9, hy9⟩ : ∃ y9, (F_X8_pageIn PP mp x49_4 a1) = y9 := ⟨_, rfl⟩
        have hcon := (c_X8_pageIn l hl0 D ad H.size h_el h_li h_A h_mp h_S k_el k_mp (h_li_0) (.ref h_ds) (h_S_2) (h_S_4) (.int n) (h_S_6) (h_S_7) (h_S_8) (h_S_9) kI AL PP capE mp x49_4 a1 hlen hpos hbig (by have y0 := f_le c_2; have y1 := f_nle c_4; have y2 := f_eq c_5; have z0 := hy0; have z1 := hy1; have z2 := hz_1; have z3 := hz_3; have x0 := ix_toNat x49_4; have q_len := hlen; have q_pos := hpos; have q_big := hbig; have q_n := nI_toInt (n := PP.length) (by omega); omega))
        rw [hy9] at hcon
        refine kr_ (va_runV (As := [.int x49_4, .int a1]) (rest := []) ⟨hx, hb, hml, hown, hts⟩ hcon (cwV 2 hts gX8_allHaveGreatest_X8_pageIn rfl rfl rfl (by decide +kernel) ⟨Nat.le_of_ble_eq_true rfl, Nat.le_of_ble_eq_true rfl⟩) ⟨PR_.blind, va_recv hK hP (ci := 11) (q0 := 5) rfl rfl, PR_.pre hF hK (hP.part [0, 1, 2, 4, 5] rfl) hS hA [0, 2, 3] rfl⟩ rfl rfl hl.1 rfl (lv_room (Nat.le_of_ble_eq_true rfl)) dX8_allHaveGreatest_73 ⟨(Nat.le_of_ble_eq_true rfl), (Nat.le_of_ble_eq_true rfl)⟩) hP hS hA (fun H locs hP hS => ?_)
        subst hy9
        refine W.eq (g2 := F0 m 76 ls [.ref (pad AL (F_X8_pageIn PP mp x49_4 a1))]) rfl ?_
        have hPg := pgw (k := (F_X8_pageIn PP mp x49_4 a1)) hP hlen (by have y0 := f_le c_2; have y1 := f_nle c_4; have y2 := f_eq c_5; have z0 := hy0; have z1 := hy1; have z2 := hz_1; have z3 := hz_3; have rn_X8_pageIn := R_X8_pageIn PP mp x49_4 a1 hpos hbig; have x0 := ix_toNat x49_4; have q_len := hlen; have q_pos := hpos; have q_big := hbig; have q_n := nI_toInt (n := PP.length) (by omega); omega)
        refine va_getN (D := D) (ci := 9) (v := .int (pgd PP (F_X8_pageIn PP mp x49_4 a1)).2.1) (own := RX8) (C := RX6) (T := TX6) (N := 4) hx hb hts hi_X6 hown hK hPg 0 rfl rfl 1 (by decide) (fxn_ hF (RX8, 105, "CanalMaps$Page", "serial", "I")) (fun _ h9 => h9) rfl dX8_allHaveGreatest_76 ?_
        refine lv_iload_n hx hb dX8_allHaveGreatest_79 rfl (lv_at hl 1 rfl) ?_
        refine lv_icmp_ge (tgt := 85) hx hb dX8_allHaveGreatest_80 (by decide) (fun c_7 => ?_) (fun c_7 => ?_)
        · rw [if_pos c_7] at hM
          refine lv_iinc (v := (x49_4 + 1)) (lv' := [(4, .int (x49_4 + 1)), (3, .int x5_3), (0, .ref h_S), (1, .int a1), (2, .int a2)]) hx hb dX8_allHaveGreatest_85 hl (k := 0) rfl rfl (by decide) rfl (fun ls hl => ?_)
          refine lv_goto (tgt := 49) hx hb dX8_allHaveGreatest_88 (by decide) ?_
          exact ih_3 (x49_4 + 1) _ _ _ _ _ ⟨lp_up hk_3 c_4, lp_up0 hz_3 c_4, hP, hS, lv_sub hl [0, 1, 2, 3, 4] rfl, hM, rfl, rfl⟩
        · rw [if_neg c_7] at hM
          have hM : F_X8_allHaveGreatest PP ds mp n a1 a2 = 0 := hM
          refine lv_iconst (v := 0) hx hb dX8_allHaveGreatest_83 (by decide) ?_
          refine W.widen (k := 0) (n := 0) (Nat.le_of_ble_eq_true rfl) (Nat.le_of_ble_eq_true rfl) ?_
          exact W.zret (v := 0) hx hb hr rfl (QR_.mk hS (by rw [hM])) hS.2.2 dX8_allHaveGreatest_84
  · rw [if_neg c_2] at hM
    refine lv_aload_n hx hb dX8_allHaveGreatest_14 rfl (lv_at hl 2 rfl) ?_
    refine va_get (D := D) (ci := 11) (v := .ref h_ds) (own := RX8) (C := RX8) (T := TX8) (N := 10) hx hb hts hi_X8 hown hK hP 5 rfl rfl 1 (by decide) (hts (.fieldLink RX8 9 "CanalMaps$Survey" "districts" "[I") (List.mem_of_getElem? (i := 2) (by decide +kernel))) (fun _ h9 => h9) rfl dX8_allHaveGreatest_15 ?_
    refine lv_iload hx hb dX8_allHaveGreatest_18 (lv_at hl 0 rfl) ?_
    refine va_iald hx hb hK hP 3 1 rfl rfl (vinI (by have y0 := f_nle c_2; have z0 := hy0; have z1 := hy1; have z2 := hz_1; have b22 := Int32.toInt_lt (x5_4); have d22 := Int32.le_toInt (x5_4); have q_len := hlen; have q_pos := hpos; have q_big := hbig; have q_n := nI_toInt (n := PP.length) (by omega); omega) (by have y0 := f_nle c_2; have z0 := hy0; have z1 := hy1; have z2 := hz_1; have b22 := Int32.toInt_lt (x5_4); have d22 := Int32.le_toInt (x5_4); have q_len := hlen; have q_pos := hpos; have q_big := hbig; have q_n := nI_toInt (n := PP.length) (by omega); omega)) dX8_allHaveGreatest_20 ?_
    refine kt_ (v := (ds (ix x5_4))) rfl ?_
    refine lv_iload_n hx hb dX8_allHaveGreatest_21 rfl (lv_at hl 4 rfl) ?_
    refine lv_icmp_ne (tgt := 40) hx hb dX8_allHaveGreatest_22 (by decide) (fun c_8 => ?_) (fun c_8 => ?_)
    · rw [if_neg c_8] at hM
      refine lv_iinc (v := (x5_4 + 1)) (lv' := [(4, .int (x5_4 + 1)), (3, .int x5_3), (0, .ref h_S), (1, .int a1), (2, .int a2)]) hx hb dX8_allHaveGreatest_40 hl (k := 0) rfl rfl (by decide) rfl (fun ls hl => ?_)
      refine lv_goto (tgt := 5) hx hb dX8_allHaveGreatest_43 (by decide) ?_
      exact ih_1 (x5_3, (x5_4 + 1)) _ _ _ _ _ ⟨lp_up hk_1 c_2, lp_up0 hz_1 c_2, hP, hS, lv_sub hl [0, 1, 2, 3, 4] rfl, hM, rfl, rfl⟩
    · rw [if_pos c_8] at hM
      refine lv_iload_n hx hb dX8_allHaveGreatest_25 rfl (lv_at hl 1 rfl) ?_
      refine lv_aload_n hx hb dX8_allHaveGreatest_26 rfl (lv_at hl 2 rfl) ?_
      refine lv_iload hx hb dX8_allHaveGreatest_27 (lv_at hl 0 rfl) ?_
      refine lv_iload_n hx hb dX8_allHaveGreatest_29 rfl (lv_at hl 3 rfl) ?_
      obtain ⟨y9, hy9⟩ : ∃ y9, (F_X8_pageIn PP mp x5_4 a1) = y9 := ⟨_, rfl⟩
      have hcon := (c_X8_pageIn l hl0 D ad H.size h_el h_li h_A h_mp h_S k_el k_mp (h_li_0) (.ref h_ds) (h_S_2) (h_S_4) (.int n) (h_S_6) (h_S_7) (h_S_8) (h_S_9) kI AL PP capE mp x5_4 a1 hlen hpos hbig (by have y0 := f_nle c_2; have y1 := f_eq c_8; have z0 := hy0; have z1 := hy1; have z2 := hz_1; have x0 := ix_toNat x5_4; have q_len := hlen; have q_pos := hpos; have q_big := hbig; have q_n := nI_toInt (n := PP.length) (by omega); omega))
      rw [hy9] at hcon
      refine kr_ (va_runV (As := [.int x5_4, .int a1]) (rest := [.int x5_3]) ⟨hx, hb, hml, hown, hts⟩ hcon (cwV 2 hts gX8_allHaveGreatest_X8_pageIn rfl rfl rfl (by decide +kernel) ⟨Nat.le_of_ble_eq_true rfl, Nat.le_of_ble_eq_true rfl⟩) ⟨PR_.blind, va_recv hK hP (ci := 11) (q0 := 5) rfl rfl, PR_.pre hF hK (hP.part [0, 1, 2, 4, 5] rfl) hS hA [0, 2, 3] rfl⟩ rfl rfl hl.1 rfl (lv_room (Nat.le_of_ble_eq_true rfl)) dX8_allHaveGreatest_30 ⟨(Nat.le_of_ble_eq_true rfl), (Nat.le_of_ble_eq_true rfl)⟩) hP hS hA (fun H locs hP hS => ?_)
      subst hy9
      refine W.eq (g2 := F0 m 33 ls [.ref (pad AL (F_X8_pageIn PP mp x5_4 a1)), .int x5_3]) rfl ?_
      have hPg := pgw (k := (F_X8_pageIn PP mp x5_4 a1)) hP hlen (by have y0 := f_nle c_2; have y1 := f_eq c_8; have z0 := hy0; have z1 := hy1; have z2 := hz_1; have rn_X8_pageIn := R_X8_pageIn PP mp x5_4 a1 hpos hbig; have x0 := ix_toNat x5_4; have q_len := hlen; have q_pos := hpos; have q_big := hbig; have q_n := nI_toInt (n := PP.length) (by omega); omega)
      refine va_getN (D := D) (ci := 9) (v := .int (pgd PP (F_X8_pageIn PP mp x5_4 a1)).2.1) (own := RX8) (C := RX6) (T := TX6) (N := 4) hx hb hts hi_X6 hown hK hPg 0 rfl rfl 1 (by decide) (fxn_ hF (RX8, 105, "CanalMaps$Page", "serial", "I")) (fun _ h9 => h9) rfl dX8_allHaveGreatest_33 ?_
      refine va_mmax (own := RX8) hx hb (by rw [hml]; exact hl.1.symm) hown (hts (.methodLink RX8 108 Lib.Math.max.name) (List.mem_of_getElem? (i := 3) (by decide +kernel))) (hts (.static Lib.Math.max.name) (List.mem_of_getElem? (i := 4) (by decide +kernel))) (hts (.initialized "java/lang/Math") (List.mem_of_getElem? (i := 5) (by decide +kernel))) (hts (.code Lib.Math.max.name Lib.Math.max.code 2 (some .int)) (List.mem_of_getElem? (i := 6) (by decide +kernel))) (Nat.le_of_ble_eq_true rfl) (Nat.le_of_ble_eq_true rfl) (Nat.le_of_ble_eq_true rfl) (Nat.le_of_ble_eq_true rfl) dX8_allHaveGreatest_36 ?_
      refine kt_ (v := (axI x5_3 ((pgd PP (F_X8_pageIn PP mp x5_4 a1)).2.1))) rfl ?_
      refine lv_istore_n (lv' := [(3, .int (axI x5_3 ((pgd PP (F_X8_pageIn PP mp x5_4 a1)).2.1))), (4, .int x5_4), (0, .ref h_S), (1, .int a1), (2, .int a2)]) hx hb dX8_allHaveGreatest_39 rfl hl (by decide) rfl (fun ls hl => ?_)
      refine lv_iinc (v := (x5_4 + 1)) (lv' := [(4, .int (x5_4 + 1)), (3, .int (axI x5_3 ((pgd PP (F_X8_pageIn PP mp x5_4 a1)).2.1))), (0, .ref h_S), (1, .int a1), (2, .int a2)]) hx hb dX8_allHaveGreatest_40 hl (k := 1) rfl rfl (by decide) rfl (fun ls hl => ?_)
      refine lv_goto (tgt := 5) hx hb dX8_allHaveGreatest_43 (by decide) ?_
      exact ih_1 ((axI x5_3 ((pgd PP (F_X8_pageIn PP mp x5_4 a1)).2.1)), (x5_4 + 1)) _ _ _ _ _ ⟨lp_up hk_1 c_2, lp_up0 hz_1 c_2, hP, hS, lv_sub hl [0, 1, 2, 3, 4] rfl, hM, rfl, rfl⟩
def B_X8_countAhead_4 (PP : List PG) (ds : Nat → Int32) (cs : Nat → Int32) (mp : Nat → Int32) (n : Int32) (a1 : Int32) (rc_4 : Int32 → Int32 → (Int32 × Int32)) (x4_2 : Int32) (x4_3 : Int32) : Int32 × Int32 := (if n ≤ x4_3 then (x4_2, x4_3) else (if ((F_X8_neighboursOf ds cs n x4_3) - (F_X8_neighboursOf ds cs n a1)) = 0 then (if ((pgd PP (F_X8_pageIn PP mp x4_3 x4_3)).2.1 - (pgd PP (F_X8_pageIn PP mp a1 a1)).2.1) = 0 then (if (a1 - x4_3) ≤ 0 then (rc_4 x4_2 (x4_3 + 1)) else (rc_4 (x4_2 + 1) (x4_3 + 1))) else (if ((pgd PP (F_X8_pageIn PP mp x4_3 x4_3)).2.1 - (pgd PP (F_X8_pageIn PP mp a1 a1)).2.1) ≤ 0 then (rc_4 x4_2 (x4_3 + 1)) else (rc_4 (x4_2 + 1) (x4_3 + 1)))) else (if ((F_X8_neighboursOf ds cs n x4_3) - (F_X8_neighboursOf ds cs n a1)) ≤ 0 then (rc_4 x4_2 (x4_3 + 1)) else (rc_4 (x4_2 + 1) (x4_3 + 1)))))
def L_X8_countAhead_4 (PP : List PG) (ds : Nat → Int32) (cs : Nat → Int32) (mp : Nat → Int32) (n : Int32) (a1 : Int32) : Nat → Int32 → Int32 → (Int32 × Int32)
  | 0 => fun x4_2 x4_3 => (x4_2, x4_3)
  | k + 1 => B_X8_countAhead_4 PP ds cs mp n a1 (L_X8_countAhead_4 PP ds cs mp n a1 k)
def K_X8_countAhead_4  : (Int32 × Int32) → (Int32)
  | (x4_2, x4_3) => x4_2
def F_X8_countAhead (PP : List PG) (ds : Nat → Int32) (cs : Nat → Int32) (mp : Nat → Int32) (n : Int32) (a1 : Int32) : Int32 := (K_X8_countAhead_4 (L_X8_countAhead_4 PP ds cs mp n a1 (((n : Int32).toInt - (0 : Int32).toInt).toNat + 1) 0 0))
set_option maxHeartbeats 4000000 in
set_option maxRecDepth 100000 in
theorem c_X8_countAhead (l : Launch) (hl0 : l.stackTraces = false) (D : va_G) (ad : Nat → Nat) (sz : Nat) (h_el : Nat) (h_li : Nat) (h_A : Nat) (h_ds : Nat) (h_cs : Nat) (h_mp : Nat) (h_S : Nat) (k_el : ClassId) (k_ds : ClassId) (k_cs : ClassId) (k_mp : ClassId) (h_li_0 : Value) (h_S_4 : Value) (h_S_6 : Value) (h_S_7 : Value) (h_S_8 : Value) (h_S_9 : Value) (kI : ClassId) (AL : List (Nat × Nat)) (PP : List PG) (capE : Nat) (ds : Nat → Int32) (cs : Nat → Int32) (mp : Nat → Int32) (n : Int32) (a1 : Int32) (hlen : AL.length = PP.length) (hpos : 0 < PP.length) (hbig : PP.length ≤ 2000000) (hy0 : n.toInt ≤ 6) (hy1 : PP.length ≤ capE) : Met l yX8_countAhead wsX8_countAhead ({ frames := 5, cells := 0, slots := 0, locals := 117 }) (PR_ D ad ([(h_el, .inl (k_el, capE, .inr (.inr (.inr (.inr (egl AL)))))), (h_li, .inr (4, [h_li_0, .ref h_el, .int (nI PP.length)])), (h_A, .inr (5, [.ref h_li, .ref (pad AL 0)])), (h_ds, .inl (k_ds, 6, .inl ds)), (h_cs, .inl (k_cs, 36, .inl cs)), (h_mp, .inl (k_mp, 36, .inl mp)), (h_S, .inr (11, [.ref h_A, .ref h_ds, .ref h_cs, .ref h_mp, h_S_4, .int n, h_S_6, h_S_7, h_S_8, h_S_9]))] ++ pgl kI AL PP) [(k_el, .object "java/lang/Object"), (k_ds, .int), (k_cs, .int), (k_mp, .int), (kI, .int)] sz [.ref h_S, .int a1]) (QR_ (.int (F_X8_countAhead PP ds cs mp n a1)) (va_A [] sz)) 0 0 (va_A [] sz) := by
  refine Met.ofW (cc := cX8_countAhead) (maxL := 5) (ret := (some .int)) (by decide) rfl ?_
  intro p e s m args below meth c s₁ B hml hv
  obtain ⟨rfl, hsz, hP, hK, hF⟩ := hv
  have hx := B.exec
  have hb := B.bytes
  have hr := B.returns
  have hts := atoms_spec (ws := wsX8_countAhead) B.pre
  have hown : s.vm.findClass RX8 = some m.cls := findClass_of_methodNamed B.named
  have hlocks := B.notSynchronized
  subst hsz
  generalize hAe : va_A [] s.heap.size = A at hF ⊢
  have hA : ∀ q : Nat, s.heap.size ≤ q → A q := fun q h => by rw [← hAe]; exact Or.inr h
  obtain ⟨H, hHe⟩ : ∃ H : Heap, H = s.heap := ⟨_, rfl⟩
  have hS : va_S A s.heap H [] := by rw [hHe]; exact va_S.rf
  have hP : va_P D vwCl ([(h_el, .inl (k_el, capE, .inr (.inr (.inr (.inr (egl AL)))))), (h_li, .inr (4, [h_li_0, .ref h_el, .int (nI PP.length)])), (h_A, .inr (5, [.ref h_li, .ref (pad AL 0)])), (h_ds, .inl (k_ds, 6, .inl ds)), (h_cs, .inl (k_cs, 36, .inl cs)), (h_mp, .inl (k_mp, 36, .inl mp)), (h_S, .inr (11, [.ref h_A, .ref h_ds, .ref h_cs, .ref h_mp, h_S_4, .int n, h_S_6, h_S_7, h_S_8, h_S_9]))] ++ pgl kI AL PP) H := by rw [hHe]; exact hP
  rw [← hHe]
  have hi_X6 : ∀ w ∈ wsX60, w ∈ wsX8_countAhead := by decide +kernel
  have hi_X8 : ∀ w ∈ wsX80, w ∈ wsX8_countAhead := by decide +kernel
  have hl := lv_entry [.ref h_S, .int a1] (n := 5) (Nat.le_of_ble_eq_true rfl)
  rw [lg_entry_eq]
  generalize (lg_sl [.ref h_S, .int a1] ++ List.replicate (5 - (lg_sl [.ref h_S, .int a1]).length) Slot.unset).toArray = ls at hl ⊢
  have hl : lv_has ls 5 [(0, .ref h_S), (1, .int a1)] := hl
  have hM : F_X8_countAhead PP ds cs mp n a1 = (K_X8_countAhead_4 (L_X8_countAhead_4 PP ds cs mp n a1 (((n : Int32).toInt - (0 : Int32).toInt).toNat + 1) 0 0)) := rfl
  refine lv_iconst (v := 0) hx hb dX8_countAhead_0 (by decide) ?_
  refine lv_istore_n (lv' := [(2, .int 0), (0, .ref h_S), (1, .int a1)]) hx hb dX8_countAhead_1 rfl hl (by decide) rfl (fun ls hl => ?_)
  refine lv_iconst (v := 0) hx hb dX8_countAhead_2 (by decide) ?_
  refine lv_istore_n (lv' := [(3, .int 0), (2, .int 0), (0, .ref h_S), (1, .int a1)]) hx hb dX8_countAhead_3 rfl hl (by decide) rfl (fun ls hl => ?_)
  refine lpW (τ := Int32 × Int32) (fun k t H locs ls c9 s9 => ((n : Int32).toInt - (t.2 : Int32).toInt).toNat < k ∧ 0 ≤ (t.2 : Int32).toInt ∧ va_P D vwCl ([(h_el, .inl (k_el, capE, .inr (.inr (.inr (.inr (egl AL)))))), (h_li, .inr (4, [h_li_0, .ref h_el, .int (nI PP.length)])), (h_A, .inr (5, [.ref h_li, .ref (pad AL 0)])), (h_ds, .inl (k_ds, 6, .inl ds)), (h_cs, .inl (k_cs, 36, .inl cs)), (h_mp, .inl (k_mp, 36, .inl mp)), (h_S, .inr (11, [.ref h_A, .ref h_ds, .ref h_cs, .ref h_mp, h_S_4, .int n, h_S_6, h_S_7, h_S_8, h_S_9]))] ++ pgl kI AL PP) H ∧ va_S A s.heap H locs ∧ lv_has ls 5 [(3, .int t.2), (2, .int t.1), (0, .ref h_S), (1, .int a1)] ∧ F_X8_countAhead PP ds cs mp n a1 = (K_X8_countAhead_4 (L_X8_countAhead_4 PP ds cs mp n a1 k t.1 t.2)) ∧ c9 = 0 ∧ s9 = 0) (fun t H locs ls c9 s9 h9 => absurd h9.1 (Nat.not_lt_zero _)) (fun k_1 ih t H locs ls c9 s9 hI => ?_) (((n : Int32).toInt - (0 : Int32).toInt).toNat + 1) (0, 0) ⟨Nat.lt_succ_self _, (show 0 ≤ (0 : Int32).toInt from (by decide +kernel)), hP, hS, (by exact hl), hM, rfl, rfl⟩
  obtain ⟨x4_2, x4_3⟩ := t
  obtain ⟨hk_1, hz_1, hP, hS, hl, hM, hcs, hss⟩ := hI
  replace hcs := hcs.symm
  subst hcs
  replace hss := hss.symm
  subst hss
  have hP : va_P D vwCl ([(h_el, .inl (k_el, capE, .inr (.inr (.inr (.inr (egl AL)))))), (h_li, .inr (4, [h_li_0, .ref h_el, .int (nI PP.length)])), (h_A, .inr (5, [.ref h_li, .ref (pad AL 0)])), (h_ds, .inl (k_ds, 6, .inl ds)), (h_cs, .inl (k_cs, 36, .inl cs)), (h_mp, .inl (k_mp, 36, .inl mp)), (h_S, .inr (11, [.ref h_A, .ref h_ds, .ref h_cs, .ref h_mp, h_S_4, .int n, h_S_6, h_S_7, h_S_8, h_S_9]))] ++ pgl kI AL PP) H := hP
  have hl : lv_has ls 5 [(3, .int x4_3), (2, .int x4_2), (0, .ref h_S), (1, .int a1)] := hl
  have hz_1 : 0 ≤ (x4_3 : Int32).toInt := hz_1
  have hk_1 : ((n : Int32).toInt - (x4_3 : Int32).toInt).toNat < k_1 + 1 := hk_1
  have hM : F_X8_countAhead PP ds cs mp n a1 = (K_X8_countAhead_4 ((if n ≤ x4_3 then (x4_2, x4_3) else (if ((F_X8_neighboursOf ds cs n x4_3) - (F_X8_neighboursOf ds cs n a1)) = 0 then (if ((pgd PP (F_X8_pageIn PP mp x4_3 x4_3)).2.1 - (pgd PP (F_X8_pageIn PP mp a1 a1)).2.1) = 0 then (if (a1 - x4_3) ≤ 0 then ((L_X8_countAhead_4 PP ds cs mp n a1 k_1) x4_2 (x4_3 + 1)) else ((L_X8_countAhead_4 PP ds cs mp n a1 k_1) (x4_2 + 1) (x4_3 + 1))) else (if ((pgd PP (F_X8_pageIn PP mp x4_3 x4_3)).2.1 - (pgd PP (F_X8_pageIn PP mp a1 a1)).2.1) ≤ 0 then ((L_X8_countAhead_4 PP ds cs mp n a1 k_1) x4_2 (x4_3 + 1)) else ((L_X8_countAhead_4 PP ds cs mp n a1 k_1) (x4_2 + 1) (x4_3 + 1)))) else (if ((F_X8_neighboursOf ds cs n x4_3) - (F_X8_neighboursOf ds cs n a1)) ≤ 0 then ((L_X8_countAhead_4 PP ds cs mp n a1 k_1) x4_2 (x4_3 + 1)) else ((L_X8_countAhead_4 PP ds cs mp n a1 k_1) (x4_2 + 1) (x4_3 + 1))))))) := hM
  have ih_1 := ih
  refine lv_iload_n hx hb dX8_countAhead_4 rfl (lv_at hl 0 rfl) ?_
  refine lv_aload_n hx hb dX8_countAhead_5 rfl (lv_at hl 2 rfl) ?_
  refine va_get (D := D) (ci := 11) (v := .int n) (own := RX8) (C := RX8) (T := TX8) (N := 10) hx hb hts hi_X8 hown hK hP 6 rfl rfl 5 (by decide) (hts (.fieldLink RX8 28 "CanalMaps$Survey" "surveyors" "I") (List.mem_of_getElem? (i := 1) (by decide +kernel))) (fun _ h9 => h9) rfl dX8_countAhead_6 ?_
  refine lv_icmp_ge (tgt := 75) hx hb dX8_countAhead_9 (by decide) (fun c_2 => ?_) (fun c_2 => ?_)
  · rw [if_pos c_2] at hM
    have hM : F_X8_countAhead PP ds cs mp n a1 = x4_2 := hM
    refine lv_iload_n hx hb dX8_countAhead_75 rfl (lv_at hl 1 rfl) ?_
    refine W.widen (k := 0) (n := 0) (Nat.le_of_ble_eq_true rfl) (Nat.le_of_ble_eq_true rfl) ?_
    exact W.iret (v := x4_2) hx hb hr (QR_.mk hS (by rw [hM])) hS.2.2 dX8_countAhead_76
  · rw [if_neg c_2] at hM
    refine lv_aload_n hx hb dX8_countAhead_12 rfl (lv_at hl 2 rfl) ?_
    refine lv_iload_n hx hb dX8_countAhead_13 rfl (lv_at hl 0 rfl) ?_
    obtain ⟨y9, hy9⟩ : ∃ y9, (F_X8_neighboursOf ds cs n x4_3) = y9 := ⟨_, rfl⟩
    have hcon := (c_X8_neighboursOf l hl0 D ad H.size h_ds h_cs h_S k_ds k_cs (.ref h_A) (.ref h_mp) (h_S_4) (h_S_6) (h_S_7) (h_S_8) (h_S_9) ds cs n x4_3 (by have y0 := f_nle c_2; have z0 := hy0; have z1 := hy1; have z2 := hz_1; have q_len := hlen; have q_pos := hpos; have q_big := hbig; have q_n := nI_toInt (n := PP.length) (by omega); omega))
    rw [hy9] at hcon
    refine kr_ (va_runV (As := [.int x4_3]) (rest := []) ⟨hx, hb, hml, hown, hts⟩ hcon (cwV 1 hts gX8_countAhead_X8_neighboursOf rfl rfl rfl (by decide +kernel) ⟨Nat.le_of_ble_eq_true rfl, Nat.le_of_ble_eq_true rfl⟩) ⟨PR_.blind, va_recv hK hP (ci := 11) (q0 := 6) rfl rfl, PR_.pre hF hK (hP.sub [3, 4, 6] rfl) hS hA [1, 2] rfl⟩ rfl rfl hl.1 rfl (lv_room (Nat.le_of_ble_eq_true rfl)) dX8_countAhead_14 ⟨(Nat.le_of_ble_eq_true rfl), (Nat.le_of_ble_eq_true rfl)⟩) hP hS hA (fun H locs hP hS => ?_)
    subst hy9
    refine W.eq (g2 := F0 m 17 ls [.int (F_X8_neighboursOf ds cs n x4_3)]) rfl ?_
    refine lv_aload_n hx hb dX8_countAhead_17 rfl (lv_at hl 2 rfl) ?_
    refine lv_iload_n hx hb dX8_countAhead_18 rfl (lv_at hl 3 rfl) ?_
    obtain ⟨y9, hy9⟩ : ∃ y9, (F_X8_neighboursOf ds cs n a1) = y9 := ⟨_, rfl⟩
    have hcon := (c_X8_neighboursOf l hl0 D ad H.size h_ds h_cs h_S k_ds k_cs (.ref h_A) (.ref h_mp) (h_S_4) (h_S_6) (h_S_7) (h_S_8) (h_S_9) ds cs n a1 (by have y0 := f_nle c_2; have z0 := hy0; have z1 := hy1; have z2 := hz_1; have q_len := hlen; have q_pos := hpos; have q_big := hbig; have q_n := nI_toInt (n := PP.length) (by omega); omega))
    rw [hy9] at hcon
    refine kr_ (va_runV (As := [.int a1]) (rest := [.int (F_X8_neighboursOf ds cs n x4_3)]) ⟨hx, hb, hml, hown, hts⟩ hcon (cwV 1 hts gX8_countAhead_X8_neighboursOf rfl rfl rfl (by decide +kernel) ⟨Nat.le_of_ble_eq_true rfl, Nat.le_of_ble_eq_true rfl⟩) ⟨PR_.blind, va_recv hK hP (ci := 11) (q0 := 6) rfl rfl, PR_.pre hF hK (hP.sub [3, 4, 6] rfl) hS hA [1, 2] rfl⟩ rfl rfl hl.1 rfl (lv_room (Nat.le_of_ble_eq_true rfl)) dX8_countAhead_19 ⟨(Nat.le_of_ble_eq_true rfl), (Nat.le_of_ble_eq_true rfl)⟩) hP hS hA (fun H locs hP hS => ?_)
    subst hy9
    refine W.eq (g2 := F0 m 22 ls [.int (F_X8_neighboursOf ds cs n a1), .int (F_X8_neighboursOf ds cs n x4_3)]) rfl ?_
    refine lv_isub hx hb dX8_countAhead_22 ?_
    refine lv_istore (lv' := [(4, .int ((F_X8_neighboursOf ds cs n x4_3) - (F_X8_neighboursOf ds cs n a1))), (3, .int x4_3), (2, .int x4_2), (0, .ref h_S), (1, .int a1)]) hx hb dX8_countAhead_23 hl (by decide) rfl (fun ls hl => ?_)
    refine lv_iload hx hb dX8_countAhead_25 (lv_at hl 0 rfl) ?_
    refine lv_if_ne (tgt := 51) hx hb dX8_countAhead_27 (by decide) (fun c_5 => ?_) (fun c_5 => ?_)
    · rw [if_neg c_5] at hM
      refine lv_iload hx hb dX8_countAhead_51 (lv_at hl 0 rfl) ?_
      refine lv_if_ne (tgt := 61) hx hb dX8_countAhead_53 (by decide) (fun _ => ?_) (fun c9 => absurd c9 c_5)
      refine lv_iload hx hb dX8_countAhead_61 (lv_at hl 0 rfl) ?_
      refine lv_if_le (tgt := 69) hx hb dX8_countAhead_63 (by decide) (fun c_6 => ?_) (fun c_6 => ?_)
      · rw [if_pos c_6] at hM
        refine lv_iinc (v := (x4_3 + 1)) (lv' := [(3, .int (x4_3 + 1)), (4, .int ((F_X8_neighboursOf ds cs n x4_3) - (F_X8_neighboursOf ds cs n a1))), (2, .int x4_2), (0, .ref h_S), (1, .int a1)]) hx hb dX8_countAhead_69 hl (k := 1) rfl rfl (by decide) rfl (fun ls hl => ?_)
        refine lv_goto (tgt := 4) hx hb dX8_countAhead_72 (by decide) ?_
        exact ih_1 (x4_2, (x4_3 + 1)) _ _ _ _ _ ⟨lp_up hk_1 c_2, lp_up0 hz_1 c_2, hP, hS, lv_sub hl [0, 2, 3, 4] rfl, hM, rfl, rfl⟩
      · rw [if_neg c_6] at hM
        refine lv_iinc (v := (x4_2 + 1)) (lv' := [(2, .int (x4_2 + 1)), (4, .int ((F_X8_neighboursOf ds cs n x4_3) - (F_X8_neighboursOf ds cs n a1))), (3, .int x4_3), (0, .ref h_S), (1, .int a1)]) hx hb dX8_countAhead_66 hl (k := 2) rfl rfl (by decide) rfl (fun ls hl => ?_)
        refine lv_iinc (v := (x4_3 + 1)) (lv' := [(3, .int (x4_3 + 1)), (2, .int (x4_2 + 1)), (4, .int ((F_X8_neighboursOf ds cs n x4_3) - (F_X8_neighboursOf ds cs n a1))), (0, .ref h_S), (1, .int a1)]) hx hb dX8_countAhead_69 hl (k := 2) rfl rfl (by decide) rfl (fun ls hl => ?_)
        refine lv_goto (tgt := 4) hx hb dX8_countAhead_72 (by decide) ?_
        exact ih_1 ((x4_2 + 1), (x4_3 + 1)) _ _ _ _ _ ⟨lp_up hk_1 c_2, lp_up0 hz_1 c_2, hP, hS, lv_sub hl [0, 1, 3, 4] rfl, hM, rfl, rfl⟩
    · rw [if_pos c_5] at hM
      refine lv_aload_n hx hb dX8_countAhead_30 rfl (lv_at hl 3 rfl) ?_
      refine lv_iload_n hx hb dX8_countAhead_31 rfl (lv_at hl 1 rfl) ?_
      refine lv_iload_n hx hb dX8_countAhead_32 rfl (lv_at hl 1 rfl) ?_
      obtain ⟨y9, hy9⟩ : ∃ y9, (F_X8_pageIn PP mp x4_3 x4_3) = y9 := ⟨_, rfl⟩
      have hcon := (c_X8_pageIn l hl0 D ad H.size h_el h_li h_A h_mp h_S k_el k_mp (h_li_0) (.ref h_ds) (.ref h_cs) (h_S_4) (.int n) (h_S_6) (h_S_7) (h_S_8) (h_S_9) kI AL PP capE mp x4_3 x4_3 hlen hpos hbig (by have y0 := f_nle c_2; have y1 := f_eq c_5; have z0 := hy0; have z1 := hy1; have z2 := hz_1; have e_0 : (0 : Int32).toInt = 0 := (by decide +kernel); have q_len := hlen; have q_pos := hpos; have q_big := hbig; have q_n := nI_toInt (n := PP.length) (by omega); omega))
      rw [hy9] at hcon
      refine kr_ (va_runV (As := [.int x4_3, .int x4_3]) (rest := []) ⟨hx, hb, hml, hown, hts⟩ hcon (cwV 2 hts gX8_countAhead_X8_pageIn rfl rfl rfl (by decide +kernel) ⟨Nat.le_of_ble_eq_true rfl, Nat.le_of_ble_eq_true rfl⟩) ⟨PR_.blind, va_recv hK hP (ci := 11) (q0 := 6) rfl rfl, PR_.pre hF hK (hP.part [0, 1, 2, 5, 6] rfl) hS hA [0, 3, 4] rfl⟩ rfl rfl hl.1 rfl (lv_room (Nat.le_of_ble_eq_true rfl)) dX8_countAhead_33 ⟨(Nat.le_of_ble_eq_true rfl), (Nat.le_of_ble_eq_true rfl)⟩) hP hS hA (fun H locs hP hS => ?_)
      subst hy9
      refine W.eq (g2 := F0 m 36 ls [.ref (pad AL (F_X8_pageIn PP mp x4_3 x4_3))]) rfl ?_
      have hPg := pgw (k := (F_X8_pageIn PP mp x4_3 x4_3)) hP hlen (by have y0 := f_nle c_2; have y1 := f_eq c_5; have z0 := hy0; have z1 := hy1; have z2 := hz_1; have e_0 : (0 : Int32).toInt = 0 := (by decide +kernel); have rn_X8_pageIn := R_X8_pageIn PP mp x4_3 x4_3 hpos hbig; have q_len := hlen; have q_pos := hpos; have q_big := hbig; have q_n := nI_toInt (n := PP.length) (by omega); omega)
      refine va_getN (D := D) (ci := 9) (v := .int (pgd PP (F_X8_pageIn PP mp x4_3 x4_3)).2.1) (own := RX8) (C := RX6) (T := TX6) (N := 4) hx hb hts hi_X6 hown hK hPg 0 rfl rfl 1 (by decide) (fxn_ hF (RX8, 105, "CanalMaps$Page", "serial", "I")) (fun _ h9 => h9) rfl dX8_countAhead_36 ?_
      refine lv_aload_n hx hb dX8_countAhead_39 rfl (lv_at hl 3 rfl) ?_
      refine lv_iload_n hx hb dX8_countAhead_40 rfl (lv_at hl 4 rfl) ?_
      refine lv_iload_n hx hb dX8_countAhead_41 rfl (lv_at hl 4 rfl) ?_
      obtain ⟨y9, hy9⟩ : ∃ y9, (F_X8_pageIn PP mp a1 a1) = y9 := ⟨_, rfl⟩
      have hcon := (c_X8_pageIn l hl0 D ad H.size h_el h_li h_A h_mp h_S k_el k_mp (h_li_0) (.ref h_ds) (.ref h_cs) (h_S_4) (.int n) (h_S_6) (h_S_7) (h_S_8) (h_S_9) kI AL PP capE mp a1 a1 hlen hpos hbig (by have y0 := f_nle c_2; have y1 := f_eq c_5; have z0 := hy0; have z1 := hy1; have z2 := hz_1; have e_0 : (0 : Int32).toInt = 0 := (by decide +kernel); have q_len := hlen; have q_pos := hpos; have q_big := hbig; have q_n := nI_toInt (n := PP.length) (by omega); omega))
      rw [hy9] at hcon
      refine kr_ (va_runV (As := [.int a1, .int a1]) (rest := [.int (pgd PP (F_X8_pageIn PP mp x4_3 x4_3)).2.1]) ⟨hx, hb, hml, hown, hts⟩ hcon (cwV 2 hts gX8_countAhead_X8_pageIn rfl rfl rfl (by decide +kernel) ⟨Nat.le_of_ble_eq_true rfl, Nat.le_of_ble_eq_true rfl⟩) ⟨PR_.blind, va_recv hK hP (ci := 11) (q0 := 6) rfl rfl, PR_.pre hF hK (hP.part [0, 1, 2, 5, 6] rfl) hS hA [0, 3, 4] rfl⟩ rfl rfl hl.1 rfl (lv_room (Nat.le_of_ble_eq_true rfl)) dX8_countAhead_42 ⟨(Nat.le_of_ble_eq_true rfl), (Nat.le_of_ble_eq_true rfl)⟩) hP hS hA (fun H locs hP hS => ?_)
      subst hy9
      refine W.eq (g2 := F0 m 45 ls [.ref (pad AL (F_X8_pageIn PP mp a1 a1)), .int (pgd PP (F_X8_pageIn PP mp x4_3 x4_3)).2.1]) rfl ?_
      have hPg := pgw (k := (F_X8_pageIn PP mp a1 a1)) hP hlen (by have y0 := f_nle c_2; have y1 := f_eq c_5; have z0 := hy0; have z1 := hy1; have z2 := hz_1; have e_0 : (0 : Int32).toInt = 0 := (by decide +kernel); have rn_X8_pageIn := R_X8_pageIn PP mp a1 a1 hpos hbig; have q_len := hlen; have q_pos := hpos; have q_big := hbig; have q_n := nI_toInt (n := PP.length) (by omega); omega)
      refine va_getN (D := D) (ci := 9) (v := .int (pgd PP (F_X8_pageIn PP mp a1 a1)).2.1) (own := RX8) (C := RX6) (T := TX6) (N := 4) hx hb hts hi_X6 hown hK hPg 0 rfl rfl 1 (by decide) (fxn_ hF (RX8, 105, "CanalMaps$Page", "serial", "I")) (fun _ h9 => h9) rfl dX8_countAhead_45 ?_
      refine lv_isub hx hb dX8_countAhead_48 ?_
      refine lv_istore (lv' := [(4, .int ((pgd PP (F_X8_pageIn PP mp x4_3 x4_3)).2.1 - (pgd PP (F_X8_pageIn PP mp a1 a1)).2.1)), (3, .int x4_3), (2, .int x4_2), (0, .ref h_S), (1, .int a1)]) hx hb dX8_countAhead_49 hl (by decide) rfl (fun ls hl => ?_)
      refine lv_iload hx hb dX8_countAhead_51 (lv_at hl 0 rfl) ?_
      refine lv_if_ne (tgt := 61) hx hb dX8_countAhead_53 (by decide) (fun c_9 => ?_) (fun c_9 => ?_)
      · rw [if_neg c_9] at hM
        refine lv_iload hx hb dX8_countAhead_61 (lv_at hl 0 rfl) ?_
        refine lv_if_le (tgt := 69) hx hb dX8_countAhead_63 (by decide) (fun c_10 => ?_) (fun c_10 => ?_)
        · rw [if_pos c_10] at hM
          refine lv_iinc (v := (x4_3 + 1)) (lv' := [(3, .int (x4_3 + 1)), (4, .int ((pgd PP (F_X8_pageIn PP mp x4_3 x4_3)).2.1 - (pgd PP (F_X8_pageIn PP mp a1 a1)).2.1)), (2, .int x4_2), (0, .ref h_S), (1, .int a1)]) hx hb dX8_countAhead_69 hl (k := 1) rfl rfl (by decide) rfl (fun ls hl => ?_)
          refine lv_goto (tgt := 4) hx hb dX8_countAhead_72 (by decide) ?_
          exact ih_1 (x4_2, (x4_3 + 1)) _ _ _ _ _ ⟨lp_up hk_1 c_2, lp_up0 hz_1 c_2, hP, hS, lv_sub hl [0, 2, 3, 4] rfl, hM, rfl, rfl⟩
        · rw [if_neg c_10] at hM
          refine lv_iinc (v := (x4_2 + 1)) (lv' := [(2, .int (x4_2 + 1)), (4, .int ((pgd PP (F_X8_pageIn PP mp x4_3 x4_3)).2.1 - (pgd PP (F_X8_pageIn PP mp a1 a1)).2.1)), (3, .int x4_3), (0, .ref h_S), (1, .int a1)]) hx hb dX8_countAhead_66 hl (k := 2) rfl rfl (by decide) rfl (fun ls hl => ?_)
          refine lv_iinc (v := (x4_3 + 1)) (lv' := [(3, .int (x4_3 + 1)), (2, .int (x4_2 + 1)), (4, .int ((pgd PP (F_X8_pageIn PP mp x4_3 x4_3)).2.1 - (pgd PP (F_X8_pageIn PP mp a1 a1)).2.1)), (0, .ref h_S), (1, .int a1)]) hx hb dX8_countAhead_69 hl (k := 2) rfl rfl (by decide) rfl (fun ls hl => ?_)
          refine lv_goto (tgt := 4) hx hb dX8_countAhead_72 (by decide) ?_
          exact ih_1 ((x4_2 + 1), (x4_3 + 1)) _ _ _ _ _ ⟨lp_up hk_1 c_2, lp_up0 hz_1 c_2, hP, hS, lv_sub hl [0, 1, 3, 4] rfl, hM, rfl, rfl⟩
      · rw [if_pos c_9] at hM
        refine lv_iload_n hx hb dX8_countAhead_56 rfl (lv_at hl 4 rfl) ?_
        refine lv_iload_n hx hb dX8_countAhead_57 rfl (lv_at hl 1 rfl) ?_
        refine lv_isub hx hb dX8_countAhead_58 ?_
        refine lv_istore (lv' := [(4, .int (a1 - x4_3)), (3, .int x4_3), (2, .int x4_2), (0, .ref h_S), (1, .int a1)]) hx hb dX8_countAhead_59 hl (by decide) rfl (fun ls hl => ?_)
        refine lv_iload hx hb dX8_countAhead_61 (lv_at hl 0 rfl) ?_
        refine lv_if_le (tgt := 69) hx hb dX8_countAhead_63 (by decide) (fun c_11 => ?_) (fun c_11 => ?_)
        · rw [if_pos c_11] at hM
          refine lv_iinc (v := (x4_3 + 1)) (lv' := [(3, .int (x4_3 + 1)), (4, .int (a1 - x4_3)), (2, .int x4_2), (0, .ref h_S), (1, .int a1)]) hx hb dX8_countAhead_69 hl (k := 1) rfl rfl (by decide) rfl (fun ls hl => ?_)
          refine lv_goto (tgt := 4) hx hb dX8_countAhead_72 (by decide) ?_
          exact ih_1 (x4_2, (x4_3 + 1)) _ _ _ _ _ ⟨lp_up hk_1 c_2, lp_up0 hz_1 c_2, hP, hS, lv_sub hl [0, 2, 3, 4] rfl, hM, rfl, rfl⟩
        · rw [if_neg c_11] at hM
          refine lv_iinc (v := (x4_2 + 1)) (lv' := [(2, .int (x4_2 + 1)), (4, .int (a1 - x4_3)), (3, .int x4_3), (0, .ref h_S), (1, .int a1)]) hx hb dX8_countAhead_66 hl (k := 2) rfl rfl (by decide) rfl (fun ls hl => ?_)
          refine lv_iinc (v := (x4_3 + 1)) (lv' := [(3, .int (x4_3 + 1)), (2, .int (x4_2 + 1)), (4, .int (a1 - x4_3)), (0, .ref h_S), (1, .int a1)]) hx hb dX8_countAhead_69 hl (k := 2) rfl rfl (by decide) rfl (fun ls hl => ?_)
          refine lv_goto (tgt := 4) hx hb dX8_countAhead_72 (by decide) ?_
          exact ih_1 ((x4_2 + 1), (x4_3 + 1)) _ _ _ _ _ ⟨lp_up hk_1 c_2, lp_up0 hz_1 c_2, hP, hS, lv_sub hl [0, 1, 3, 4] rfl, hM, rfl, rfl⟩
