def F_J9_floorMod_7cf53_36 (a1 : Int32) : Int32 := (if 0 ≤ (a1 ^^^ 36) then (rmI a1 36) else (if (rmI a1 36) = 0 then (rmI a1 36) else ((rmI a1 36) + 36)))
set_option maxHeartbeats 4000000 in
set_option maxRecDepth 100000 in
theorem c_J9_floorMod_7cf53_36 (l : Launch) (hl0 : l.stackTraces = false) (D : va_G) (ad : Nat → Nat) (sz : Nat) (a1 : Int32) : Met l yJ9_floorMod_7cf53 wsJ9_floorMod_7cf53 ({ frames := 0, cells := 0, slots := 0, locals := 0 }) (PR_ D ad [] [] sz [.int a1, .int 36]) (QR_ (.int (F_J9_floorMod_7cf53_36 a1)) (va_A [] sz)) 0 0 (va_A [] sz) := by
  refine ofWF_ (cc := cJ9_floorMod_7cf53) (maxL := 3) (ret := (some .int)) (by decide +kernel) rfl ?_
  intro p e s m args below meth c s₁ B hml hv
  obtain ⟨rfl, hsz, hP, hK, hF⟩ := hv
  have hx := B.exec
  have hb := B.bytes
  have hr := B.returns
  have hts := atoms_spec (ws := wsJ9_floorMod_7cf53) B.pre
  have hown : s.vm.findClass RJ9 = some m.cls := findClass_of_methodNamed B.named
  have hlocks := B.notSynchronized
  subst hsz
  generalize hAe : va_A [] s.heap.size = A at hF ⊢
  have hA : ∀ q : Nat, s.heap.size ≤ q → A q := fun q h => by rw [← hAe]; exact Or.inr h
  obtain ⟨H, hHe⟩ : ∃ H : Heap, H = s.heap := ⟨_, rfl⟩
  have hS : va_S A s.heap H [] := by rw [hHe]; exact va_S.rf
  have hP : va_P D vwCl [] H := by rw [hHe]; exact hP
  rw [← hHe]
  have hl := lv_entry [.int a1, .int 36] (n := 3) (Nat.le_of_ble_eq_true rfl)
  rw [lg_entry_eq]
  generalize (lg_sl [.int a1, .int 36] ++ List.replicate (3 - (lg_sl [.int a1, .int 36]).length) Slot.unset).toArray = ls at hl ⊢
  have hl : lv_has ls 3 [(0, .int a1), (1, .int 36)] := hl
  have hM : F_J9_floorMod_7cf53_36 a1 = (if 0 ≤ (a1 ^^^ 36) then (rmI a1 36) else (if (rmI a1 36) = 0 then (rmI a1 36) else ((rmI a1 36) + 36))) := rfl
  refine lv_iload_n hx hb dJ9_floorMod_7cf53_0 rfl (lv_at hl 0 rfl) ?_
  refine lv_iload_n hx hb dJ9_floorMod_7cf53_1 rfl (lv_at hl 1 rfl) ?_
  refine lv_irem hx hb dJ9_floorMod_7cf53_2 (by decide +kernel) ?_
  refine kt_ (v := (rmI a1 36)) rfl ?_
  refine lv_istore_n (lv' := [(2, .int (rmI a1 36)), (0, .int a1), (1, .int 36)]) hx hb dJ9_floorMod_7cf53_3 rfl hl (by decide) rfl (fun ls hl => ?_)
  refine lv_iload_n hx hb dJ9_floorMod_7cf53_4 rfl (lv_at hl 1 rfl) ?_
  refine lv_iload_n hx hb dJ9_floorMod_7cf53_5 rfl (lv_at hl 2 rfl) ?_
  refine lv_ixor hx hb dJ9_floorMod_7cf53_6 ?_
  refine lv_if_ge (tgt := 18) hx hb dJ9_floorMod_7cf53_7 (by decide) (fun c_1 => ?_) (fun c_1 => ?_)
  · rw [if_pos c_1] at hM
    refine lv_iload_n hx hb dJ9_floorMod_7cf53_18 rfl (lv_at hl 0 rfl) ?_
    refine W.widen (k := 0) (n := 0) (Nat.le_of_ble_eq_true rfl) (Nat.le_of_ble_eq_true rfl) ?_
    exact W.iret (v := (rmI a1 36)) hx hb hr (QR_.mk hS (by rw [hM])) hS.2.2 dJ9_floorMod_7cf53_19
  · rw [if_neg c_1] at hM
    refine lv_iload_n hx hb dJ9_floorMod_7cf53_10 rfl (lv_at hl 0 rfl) ?_
    refine lv_if_eq (tgt := 18) hx hb dJ9_floorMod_7cf53_11 (by decide) (fun c_2 => ?_) (fun c_2 => ?_)
    · rw [if_pos c_2] at hM
      refine lv_iload_n hx hb dJ9_floorMod_7cf53_18 rfl (lv_at hl 0 rfl) ?_
      refine W.widen (k := 0) (n := 0) (Nat.le_of_ble_eq_true rfl) (Nat.le_of_ble_eq_true rfl) ?_
      exact W.iret (v := (rmI a1 36)) hx hb hr (QR_.mk hS (by rw [hM])) hS.2.2 dJ9_floorMod_7cf53_19
    · rw [if_neg c_2] at hM
      refine lv_iload_n hx hb dJ9_floorMod_7cf53_14 rfl (lv_at hl 0 rfl) ?_
      refine lv_iload_n hx hb dJ9_floorMod_7cf53_15 rfl (lv_at hl 2 rfl) ?_
      refine lv_iadd hx hb dJ9_floorMod_7cf53_16 ?_
      refine W.widen (k := 0) (n := 0) (Nat.le_of_ble_eq_true rfl) (Nat.le_of_ble_eq_true rfl) ?_
      exact W.iret (v := ((rmI a1 36) + 36)) hx hb hr (QR_.mk hS (by rw [hM])) hS.2.2 dJ9_floorMod_7cf53_17
def F_X5_senderOf (pk : Nat → Int32) (cn : Int32) (a1 : Int32) : Int32 := (if (F_X5_has cn a1) = 0 then 0 else ((F_J9_floorMod_7cf53_36 (pk (ix a1))) / 6))
set_option maxHeartbeats 4000000 in
set_option maxRecDepth 100000 in
theorem c_X5_senderOf (l : Launch) (hl0 : l.stackTraces = false) (D : va_G) (ad : Nat → Nat) (sz : Nat) (h_pk : Nat) (h_L : Nat) (k_pk : ClassId) (h_L_2 : Value) (cap : Nat) (pk : Nat → Int32) (cn : Int32) (a1 : Int32) (hy0 : 0 ≤ cn.toInt) (hy1 : cn.toInt ≤ cap) (hy2 : cn.toInt ≤ 1000000) (hy3 : 64 ≤ cap) (hy4 : cap ≤ 2000000) : Met l yX5_senderOf wsX5_senderOf ({ frames := 1, cells := 0, slots := 0, locals := 24 }) (PR_ D ad [(h_pk, .inl (k_pk, cap, .inl pk)), (h_L, .inr (8, [.ref h_pk, .int cn, h_L_2]))] [(k_pk, .int)] sz [.ref h_L, .int a1]) (QR_ (.int (F_X5_senderOf pk cn a1)) (va_A [] sz)) 0 0 (va_A [] sz) := by
  refine Met.ofW (cc := cX5_senderOf) (maxL := 2) (ret := (some .int)) (by decide) rfl ?_
  intro p e s m args below meth c s₁ B hml hv
  obtain ⟨rfl, hsz, hP, hK, hF⟩ := hv
  have hx := B.exec
  have hb := B.bytes
  have hr := B.returns
  have hts := atoms_spec (ws := wsX5_senderOf) B.pre
  have hown : s.vm.findClass RX5 = some m.cls := findClass_of_methodNamed B.named
  have hlocks := B.notSynchronized
  subst hsz
  generalize hAe : va_A [] s.heap.size = A at hF ⊢
  have hA : ∀ q : Nat, s.heap.size ≤ q → A q := fun q h => by rw [← hAe]; exact Or.inr h
  obtain ⟨H, hHe⟩ : ∃ H : Heap, H = s.heap := ⟨_, rfl⟩
  have hS : va_S A s.heap H [] := by rw [hHe]; exact va_S.rf
  have hP : va_P D vwCl [(h_pk, .inl (k_pk, cap, .inl pk)), (h_L, .inr (8, [.ref h_pk, .int cn, h_L_2]))] H := by rw [hHe]; exact hP
  rw [← hHe]
  have hi_X5 : ∀ w ∈ wsX50, w ∈ wsX5_senderOf := by decide +kernel
  have hl := lv_entry [.ref h_L, .int a1] (n := 2) (Nat.le_of_ble_eq_true rfl)
  rw [lg_entry_eq]
  generalize (lg_sl [.ref h_L, .int a1] ++ List.replicate (2 - (lg_sl [.ref h_L, .int a1]).length) Slot.unset).toArray = ls at hl ⊢
  have hl : lv_has ls 2 [(0, .ref h_L), (1, .int a1)] := hl
  have hM : F_X5_senderOf pk cn a1 = (if (F_X5_has cn a1) = 0 then 0 else ((F_J9_floorMod_7cf53_36 (pk (ix a1))) / 6)) := rfl
  refine lv_aload_n hx hb dX5_senderOf_0 rfl (lv_at hl 0 rfl) ?_
  refine lv_iload_n hx hb dX5_senderOf_1 rfl (lv_at hl 1 rfl) ?_
  obtain ⟨y9, hy9⟩ : ∃ y9, (F_X5_has cn a1) = y9 := ⟨_, rfl⟩
  have hcon := (c_X5_has l hl0 D ad H.size h_L (.ref h_pk) (h_L_2) cn a1 (by have z0 := hy0; have z1 := hy1; have z2 := hy2; have z3 := hy3; have z4 := hy4; omega) (by have z0 := hy0; have z1 := hy1; have z2 := hy2; have z3 := hy3; have z4 := hy4; omega))
  rw [hy9] at hcon
  refine kr_ (va_runV (As := [.int a1]) (rest := []) ⟨hx, hb, hml, hown, hts⟩ hcon (cwV 1 hts gX5_senderOf_X5_has rfl rfl rfl (by decide +kernel) ⟨Nat.le_of_ble_eq_true rfl, Nat.le_of_ble_eq_true rfl⟩) ⟨PR_.blind, va_recv hK hP (ci := 8) (q0 := 1) rfl rfl, PR_.pre hF hK (hP.sub [1] rfl) hS hA [] rfl⟩ rfl rfl hl.1 rfl (lv_room (Nat.le_of_ble_eq_true rfl)) dX5_senderOf_2 ⟨(Nat.le_of_ble_eq_true rfl), (Nat.le_of_ble_eq_true rfl)⟩) hP hS hA (fun H locs hP hS => ?_)
  subst hy9
  refine W.eq (g2 := F0 m 5 ls [.int (F_X5_has cn a1)]) rfl ?_
  refine lv_if_eq (tgt := 25) hx hb dX5_senderOf_5 (by decide) (fun c_2 => ?_) (fun c_2 => ?_)
  · rw [if_pos c_2] at hM
    refine lv_iconst (v := 0) hx hb dX5_senderOf_25 (by decide) ?_
    refine W.widen (k := 0) (n := 0) (Nat.le_of_ble_eq_true rfl) (Nat.le_of_ble_eq_true rfl) ?_
    exact W.iret (v := 0) hx hb hr (QR_.mk hS (by rw [hM])) hS.2.2 dX5_senderOf_26
  · rw [if_neg c_2] at hM
    refine lv_aload_n hx hb dX5_senderOf_8 rfl (lv_at hl 0 rfl) ?_
    refine va_get (D := D) (ci := 8) (v := .ref h_pk) (own := RX5) (C := RX5) (T := TX5) (N := 3) hx hb hts hi_X5 hown hK hP 1 rfl rfl 0 (by decide) (hts (.fieldLink RX5 11 "CanalMaps$Letters" "packed" "[I") (List.mem_of_getElem? (i := 1) (by decide +kernel))) (fun _ h9 => h9) rfl dX5_senderOf_9 ?_
    refine lv_iload_n hx hb dX5_senderOf_12 rfl (lv_at hl 1 rfl) ?_
    refine va_iald hx hb hK hP 0 0 rfl rfl (vinI (by have y0 := R_X5_has c_2; have z0 := hy0; have z1 := hy1; have z2 := hy2; have z3 := hy3; have z4 := hy4; have b4 := Int32.toInt_lt (a1); have d4 := Int32.le_toInt (a1); omega) (by have y0 := R_X5_has c_2; have z0 := hy0; have z1 := hy1; have z2 := hy2; have z3 := hy3; have z4 := hy4; have b4 := Int32.toInt_lt (a1); have d4 := Int32.le_toInt (a1); omega)) dX5_senderOf_13 ?_
    refine kt_ (v := (pk (ix a1))) rfl ?_
    refine lv_bipush (v := 36) hx hb dX5_senderOf_14 (by decide) ?_
    obtain ⟨y9, hy9⟩ : ∃ y9, (F_J9_floorMod_7cf53_36 (pk (ix a1))) = y9 := ⟨_, rfl⟩
    have hcon := (c_J9_floorMod_7cf53_36 l hl0 D ad H.size (pk (ix a1)))
    rw [hy9] at hcon
    refine kr_ (va_runS (As := [.int (pk (ix a1)), .int 36]) (rest := []) ⟨hx, hb, hml, hown, hts⟩ hcon (va_cwS 2 hts gX5_senderOf_J9_floorMod_7cf53 rfl rfl rfl (by decide +kernel) ⟨Nat.le_of_ble_eq_true rfl, Nat.le_of_ble_eq_true rfl⟩) ⟨PR_.blind, PR_.pre hF hK (hP.sub [] rfl) hS hA [] rfl⟩ rfl rfl hl.1 rfl (lv_room (Nat.le_of_ble_eq_true rfl)) dX5_senderOf_16 ⟨(Nat.le_of_ble_eq_true rfl), (Nat.le_of_ble_eq_true rfl)⟩) hP hS hA (fun H locs hP hS => ?_)
    subst hy9
    refine W.eq (g2 := F0 m 19 ls [.int (F_J9_floorMod_7cf53_36 (pk (ix a1)))]) rfl ?_
    refine lv_bipush (v := 6) hx hb dX5_senderOf_19 (by decide) ?_
    refine lv_idiv hx hb dX5_senderOf_21 (by decide +kernel) ?_
    refine lv_goto (tgt := 26) hx hb dX5_senderOf_22 (by decide) ?_
    refine W.widen (k := 0) (n := 0) (Nat.le_of_ble_eq_true rfl) (Nat.le_of_ble_eq_true rfl) ?_
    exact W.iret (v := ((F_J9_floorMod_7cf53_36 (pk (ix a1))) / 6)) hx hb hr (QR_.mk hS (by rw [hM])) hS.2.2 dX5_senderOf_26
def F_J9_floorMod_7cf53_6 (a1 : Int32) : Int32 := (if 0 ≤ (a1 ^^^ 6) then (rmI a1 6) else (if (rmI a1 6) = 0 then (rmI a1 6) else ((rmI a1 6) + 6)))
set_option maxHeartbeats 4000000 in
set_option maxRecDepth 100000 in
theorem c_J9_floorMod_7cf53_6 (l : Launch) (hl0 : l.stackTraces = false) (D : va_G) (ad : Nat → Nat) (sz : Nat) (a1 : Int32) : Met l yJ9_floorMod_7cf53 wsJ9_floorMod_7cf53 ({ frames := 0, cells := 0, slots := 0, locals := 0 }) (PR_ D ad [] [] sz [.int a1, .int 6]) (QR_ (.int (F_J9_floorMod_7cf53_6 a1)) (va_A [] sz)) 0 0 (va_A [] sz) := by
  refine ofWF_ (cc := cJ9_floorMod_7cf53) (maxL := 3) (ret := (some .int)) (by decide +kernel) rfl ?_
  intro p e s m args below meth c s₁ B hml hv
  obtain ⟨rfl, hsz, hP, hK, hF⟩ := hv
  have hx := B.exec
  have hb := B.bytes
  have hr := B.returns
  have hts := atoms_spec (ws := wsJ9_floorMod_7cf53) B.pre
  have hown : s.vm.findClass RJ9 = some m.cls := findClass_of_methodNamed B.named
  have hlocks := B.notSynchronized
  subst hsz
  generalize hAe : va_A [] s.heap.size = A at hF ⊢
  have hA : ∀ q : Nat, s.heap.size ≤ q → A q := fun q h => by rw [← hAe]; exact Or.inr h
  obtain ⟨H, hHe⟩ : ∃ H : Heap, H = s.heap := ⟨_, rfl⟩
  have hS : va_S A s.heap H [] := by rw [hHe]; exact va_S.rf
  have hP : va_P D vwCl [] H := by rw [hHe]; exact hP
  rw [← hHe]
  have hl := lv_entry [.int a1, .int 6] (n := 3) (Nat.le_of_ble_eq_true rfl)
  rw [lg_entry_eq]
  generalize (lg_sl [.int a1, .int 6] ++ List.replicate (3 - (lg_sl [.int a1, .int 6]).length) Slot.unset).toArray = ls at hl ⊢
  have hl : lv_has ls 3 [(0, .int a1), (1, .int 6)] := hl
  have hM : F_J9_floorMod_7cf53_6 a1 = (if 0 ≤ (a1 ^^^ 6) then (rmI a1 6) else (if (rmI a1 6) = 0 then (rmI a1 6) else ((rmI a1 6) + 6))) := rfl
  refine lv_iload_n hx hb dJ9_floorMod_7cf53_0 rfl (lv_at hl 0 rfl) ?_
  refine lv_iload_n hx hb dJ9_floorMod_7cf53_1 rfl (lv_at hl 1 rfl) ?_
  refine lv_irem hx hb dJ9_floorMod_7cf53_2 (by decide +kernel) ?_
  refine kt_ (v := (rmI a1 6)) rfl ?_
  refine lv_istore_n (lv' := [(2, .int (rmI a1 6)), (0, .int a1), (1, .int 6)]) hx hb dJ9_floorMod_7cf53_3 rfl hl (by decide) rfl (fun ls hl => ?_)
  refine lv_iload_n hx hb dJ9_floorMod_7cf53_4 rfl (lv_at hl 1 rfl) ?_
  refine lv_iload_n hx hb dJ9_floorMod_7cf53_5 rfl (lv_at hl 2 rfl) ?_
  refine lv_ixor hx hb dJ9_floorMod_7cf53_6 ?_
  refine lv_if_ge (tgt := 18) hx hb dJ9_floorMod_7cf53_7 (by decide) (fun c_1 => ?_) (fun c_1 => ?_)
  · rw [if_pos c_1] at hM
    refine lv_iload_n hx hb dJ9_floorMod_7cf53_18 rfl (lv_at hl 0 rfl) ?_
    refine W.widen (k := 0) (n := 0) (Nat.le_of_ble_eq_true rfl) (Nat.le_of_ble_eq_true rfl) ?_
    exact W.iret (v := (rmI a1 6)) hx hb hr (QR_.mk hS (by rw [hM])) hS.2.2 dJ9_floorMod_7cf53_19
  · rw [if_neg c_1] at hM
    refine lv_iload_n hx hb dJ9_floorMod_7cf53_10 rfl (lv_at hl 0 rfl) ?_
    refine lv_if_eq (tgt := 18) hx hb dJ9_floorMod_7cf53_11 (by decide) (fun c_2 => ?_) (fun c_2 => ?_)
    · rw [if_pos c_2] at hM
      refine lv_iload_n hx hb dJ9_floorMod_7cf53_18 rfl (lv_at hl 0 rfl) ?_
      refine W.widen (k := 0) (n := 0) (Nat.le_of_ble_eq_true rfl) (Nat.le_of_ble_eq_true rfl) ?_
      exact W.iret (v := (rmI a1 6)) hx hb hr (QR_.mk hS (by rw [hM])) hS.2.2 dJ9_floorMod_7cf53_19
    · rw [if_neg c_2] at hM
      refine lv_iload_n hx hb dJ9_floorMod_7cf53_14 rfl (lv_at hl 0 rfl) ?_
      refine lv_iload_n hx hb dJ9_floorMod_7cf53_15 rfl (lv_at hl 2 rfl) ?_
      refine lv_iadd hx hb dJ9_floorMod_7cf53_16 ?_
      refine W.widen (k := 0) (n := 0) (Nat.le_of_ble_eq_true rfl) (Nat.le_of_ble_eq_true rfl) ?_
      exact W.iret (v := ((rmI a1 6) + 6)) hx hb hr (QR_.mk hS (by rw [hM])) hS.2.2 dJ9_floorMod_7cf53_17
def F_X5_receiverOf (pk : Nat → Int32) (cn : Int32) (a1 : Int32) : Int32 := (if (F_X5_has cn a1) = 0 then 0 else (F_J9_floorMod_7cf53_6 (pk (ix a1))))
set_option maxHeartbeats 4000000 in
set_option maxRecDepth 100000 in
theorem c_X5_receiverOf (l : Launch) (hl0 : l.stackTraces = false) (D : va_G) (ad : Nat → Nat) (sz : Nat) (h_pk : Nat) (h_L : Nat) (k_pk : ClassId) (h_L_2 : Value) (cap : Nat) (pk : Nat → Int32) (cn : Int32) (a1 : Int32) (hy0 : 0 ≤ cn.toInt) (hy1 : cn.toInt ≤ cap) (hy2 : cn.toInt ≤ 1000000) (hy3 : 64 ≤ cap) (hy4 : cap ≤ 2000000) : Met l yX5_receiverOf wsX5_receiverOf ({ frames := 1, cells := 0, slots := 0, locals := 24 }) (PR_ D ad [(h_pk, .inl (k_pk, cap, .inl pk)), (h_L, .inr (8, [.ref h_pk, .int cn, h_L_2]))] [(k_pk, .int)] sz [.ref h_L, .int a1]) (QR_ (.int (F_X5_receiverOf pk cn a1)) (va_A [] sz)) 0 0 (va_A [] sz) := by
  refine Met.ofW (cc := cX5_receiverOf) (maxL := 2) (ret := (some .int)) (by decide) rfl ?_
  intro p e s m args below meth c s₁ B hml hv
  obtain ⟨rfl, hsz, hP, hK, hF⟩ := hv
  have hx := B.exec
  have hb := B.bytes
  have hr := B.returns
  have hts := atoms_spec (ws := wsX5_receiverOf) B.pre
  have hown : s.vm.findClass RX5 = some m.cls := findClass_of_methodNamed B.named
  have hlocks := B.notSynchronized
  subst hsz
  generalize hAe : va_A [] s.heap.size = A at hF ⊢
  have hA : ∀ q : Nat, s.heap.size ≤ q → A q := fun q h => by rw [← hAe]; exact Or.inr h
  obtain ⟨H, hHe⟩ : ∃ H : Heap, H = s.heap := ⟨_, rfl⟩
  have hS : va_S A s.heap H [] := by rw [hHe]; exact va_S.rf
  have hP : va_P D vwCl [(h_pk, .inl (k_pk, cap, .inl pk)), (h_L, .inr (8, [.ref h_pk, .int cn, h_L_2]))] H := by rw [hHe]; exact hP
  rw [← hHe]
  have hi_X5 : ∀ w ∈ wsX50, w ∈ wsX5_receiverOf := by decide +kernel
  have hl := lv_entry [.ref h_L, .int a1] (n := 2) (Nat.le_of_ble_eq_true rfl)
  rw [lg_entry_eq]
  generalize (lg_sl [.ref h_L, .int a1] ++ List.replicate (2 - (lg_sl [.ref h_L, .int a1]).length) Slot.unset).toArray = ls at hl ⊢
  have hl : lv_has ls 2 [(0, .ref h_L), (1, .int a1)] := hl
  have hM : F_X5_receiverOf pk cn a1 = (if (F_X5_has cn a1) = 0 then 0 else (F_J9_floorMod_7cf53_6 (pk (ix a1)))) := rfl
  refine lv_aload_n hx hb dX5_receiverOf_0 rfl (lv_at hl 0 rfl) ?_
  refine lv_iload_n hx hb dX5_receiverOf_1 rfl (lv_at hl 1 rfl) ?_
  obtain ⟨y9, hy9⟩ : ∃ y9, (F_X5_has cn a1) = y9 := ⟨_, rfl⟩
  have hcon := (c_X5_has l hl0 D ad H.size h_L (.ref h_pk) (h_L_2) cn a1 (by have z0 := hy0; have z1 := hy1; have z2 := hy2; have z3 := hy3; have z4 := hy4; omega) (by have z0 := hy0; have z1 := hy1; have z2 := hy2; have z3 := hy3; have z4 := hy4; omega))
  rw [hy9] at hcon
  refine kr_ (va_runV (As := [.int a1]) (rest := []) ⟨hx, hb, hml, hown, hts⟩ hcon (cwV 1 hts gX5_receiverOf_X5_has rfl rfl rfl (by decide +kernel) ⟨Nat.le_of_ble_eq_true rfl, Nat.le_of_ble_eq_true rfl⟩) ⟨PR_.blind, va_recv hK hP (ci := 8) (q0 := 1) rfl rfl, PR_.pre hF hK (hP.sub [1] rfl) hS hA [] rfl⟩ rfl rfl hl.1 rfl (lv_room (Nat.le_of_ble_eq_true rfl)) dX5_receiverOf_2 ⟨(Nat.le_of_ble_eq_true rfl), (Nat.le_of_ble_eq_true rfl)⟩) hP hS hA (fun H locs hP hS => ?_)
  subst hy9
  refine W.eq (g2 := F0 m 5 ls [.int (F_X5_has cn a1)]) rfl ?_
  refine lv_if_eq (tgt := 22) hx hb dX5_receiverOf_5 (by decide) (fun c_2 => ?_) (fun c_2 => ?_)
  · rw [if_pos c_2] at hM
    refine lv_iconst (v := 0) hx hb dX5_receiverOf_22 (by decide) ?_
    refine W.widen (k := 0) (n := 0) (Nat.le_of_ble_eq_true rfl) (Nat.le_of_ble_eq_true rfl) ?_
    exact W.iret (v := 0) hx hb hr (QR_.mk hS (by rw [hM])) hS.2.2 dX5_receiverOf_23
  · rw [if_neg c_2] at hM
    refine lv_aload_n hx hb dX5_receiverOf_8 rfl (lv_at hl 0 rfl) ?_
    refine va_get (D := D) (ci := 8) (v := .ref h_pk) (own := RX5) (C := RX5) (T := TX5) (N := 3) hx hb hts hi_X5 hown hK hP 1 rfl rfl 0 (by decide) (hts (.fieldLink RX5 11 "CanalMaps$Letters" "packed" "[I") (List.mem_of_getElem? (i := 1) (by decide +kernel))) (fun _ h9 => h9) rfl dX5_receiverOf_9 ?_
    refine lv_iload_n hx hb dX5_receiverOf_12 rfl (lv_at hl 1 rfl) ?_
    refine va_iald hx hb hK hP 0 0 rfl rfl (vinI (by have y0 := R_X5_has c_2; have z0 := hy0; have z1 := hy1; have z2 := hy2; have z3 := hy3; have z4 := hy4; have b4 := Int32.toInt_lt (a1); have d4 := Int32.le_toInt (a1); omega) (by have y0 := R_X5_has c_2; have z0 := hy0; have z1 := hy1; have z2 := hy2; have z3 := hy3; have z4 := hy4; have b4 := Int32.toInt_lt (a1); have d4 := Int32.le_toInt (a1); omega)) dX5_receiverOf_13 ?_
    refine kt_ (v := (pk (ix a1))) rfl ?_
    refine lv_bipush (v := 6) hx hb dX5_receiverOf_14 (by decide) ?_
    obtain ⟨y9, hy9⟩ : ∃ y9, (F_J9_floorMod_7cf53_6 (pk (ix a1))) = y9 := ⟨_, rfl⟩
    have hcon := (c_J9_floorMod_7cf53_6 l hl0 D ad H.size (pk (ix a1)))
    rw [hy9] at hcon
    refine kr_ (va_runS (As := [.int (pk (ix a1)), .int 6]) (rest := []) ⟨hx, hb, hml, hown, hts⟩ hcon (va_cwS 2 hts gX5_receiverOf_J9_floorMod_7cf53 rfl rfl rfl (by decide +kernel) ⟨Nat.le_of_ble_eq_true rfl, Nat.le_of_ble_eq_true rfl⟩) ⟨PR_.blind, PR_.pre hF hK (hP.sub [] rfl) hS hA [] rfl⟩ rfl rfl hl.1 rfl (lv_room (Nat.le_of_ble_eq_true rfl)) dX5_receiverOf_16 ⟨(Nat.le_of_ble_eq_true rfl), (Nat.le_of_ble_eq_true rfl)⟩) hP hS hA (fun H locs hP hS => ?_)
    subst hy9
    refine W.eq (g2 := F0 m 19 ls [.int (F_J9_floorMod_7cf53_6 (pk (ix a1)))]) rfl ?_
    refine lv_goto (tgt := 23) hx hb dX5_receiverOf_19 (by decide) ?_
    refine W.widen (k := 0) (n := 0) (Nat.le_of_ble_eq_true rfl) (Nat.le_of_ble_eq_true rfl) ?_
    exact W.iret (v := (F_J9_floorMod_7cf53_6 (pk (ix a1)))) hx hb hr (QR_.mk hS (by rw [hM])) hS.2.2 dX5_receiverOf_23
def B_X5_countTo_4 (pk : Nat → Int32) (cn : Int32) (a1 : Int32) (rc_4 : Int32 → Int32 → (Int32 × Int32)) (x4_2 : Int32) (x4_3 : Int32) : Int32 × Int32 := (if cn ≤ x4_3 then (x4_2, x4_3) else (if (F_X5_receiverOf pk cn x4_3) = a1 then (rc_4 (x4_2 + 1) (x4_3 + 1)) else (rc_4 x4_2 (x4_3 + 1))))
def L_X5_countTo_4 (pk : Nat → Int32) (cn : Int32) (a1 : Int32) : Nat → Int32 → Int32 → (Int32 × Int32)
  | 0 => fun x4_2 x4_3 => (x4_2, x4_3)
  | k + 1 => B_X5_countTo_4 pk cn a1 (L_X5_countTo_4 pk cn a1 k)
def K_X5_countTo_4  : (Int32 × Int32) → (Int32)
  | (x4_2, x4_3) => x4_2
def F_X5_countTo (pk : Nat → Int32) (cn : Int32) (a1 : Int32) : Int32 := (K_X5_countTo_4 (L_X5_countTo_4 pk cn a1 (((cn : Int32).toInt - (0 : Int32).toInt).toNat + 1) 0 0))
set_option maxHeartbeats 4000000 in
set_option maxRecDepth 100000 in
theorem c_X5_countTo (l : Launch) (hl0 : l.stackTraces = false) (D : va_G) (ad : Nat → Nat) (sz : Nat) (h_pk : Nat) (h_L : Nat) (k_pk : ClassId) (h_L_2 : Value) (cap : Nat) (pk : Nat → Int32) (cn : Int32) (a1 : Int32) (hy0 : 0 ≤ cn.toInt) (hy1 : cn.toInt ≤ cap) (hy2 : cn.toInt ≤ 1000000) (hy3 : 64 ≤ cap) (hy4 : cap ≤ 2000000) : Met l yX5_countTo wsX5_countTo ({ frames := 2, cells := 0, slots := 0, locals := 47 }) (PR_ D ad [(h_pk, .inl (k_pk, cap, .inl pk)), (h_L, .inr (8, [.ref h_pk, .int cn, h_L_2]))] [(k_pk, .int)] sz [.ref h_L, .int a1]) (QR_ (.int (F_X5_countTo pk cn a1)) (va_A [] sz)) 0 0 (va_A [] sz) := by
  refine Met.ofW (cc := cX5_countTo) (maxL := 4) (ret := (some .int)) (by decide) rfl ?_
  intro p e s m args below meth c s₁ B hml hv
  obtain ⟨rfl, hsz, hP, hK, hF⟩ := hv
  have hx := B.exec
  have hb := B.bytes
  have hr := B.returns
  have hts := atoms_spec (ws := wsX5_countTo) B.pre
  have hown : s.vm.findClass RX5 = some m.cls := findClass_of_methodNamed B.named
  have hlocks := B.notSynchronized
  subst hsz
  generalize hAe : va_A [] s.heap.size = A at hF ⊢
  have hA : ∀ q : Nat, s.heap.size ≤ q → A q := fun q h => by rw [← hAe]; exact Or.inr h
  obtain ⟨H, hHe⟩ : ∃ H : Heap, H = s.heap := ⟨_, rfl⟩
  have hS : va_S A s.heap H [] := by rw [hHe]; exact va_S.rf
  have hP : va_P D vwCl [(h_pk, .inl (k_pk, cap, .inl pk)), (h_L, .inr (8, [.ref h_pk, .int cn, h_L_2]))] H := by rw [hHe]; exact hP
  rw [← hHe]
  have hi_X5 : ∀ w ∈ wsX50, w ∈ wsX5_countTo := by decide +kernel
  have hl := lv_entry [.ref h_L, .int a1] (n := 4) (Nat.le_of_ble_eq_true rfl)
  rw [lg_entry_eq]
  generalize (lg_sl [.ref h_L, .int a1] ++ List.replicate (4 - (lg_sl [.ref h_L, .int a1]).length) Slot.unset).toArray = ls at hl ⊢
  have hl : lv_has ls 4 [(0, .ref h_L), (1, .int a1)] := hl
  have hM : F_X5_countTo pk cn a1 = (K_X5_countTo_4 (L_X5_countTo_4 pk cn a1 (((cn : Int32).toInt - (0 : Int32).toInt).toNat + 1) 0 0)) := rfl
  refine lv_iconst (v := 0) hx hb dX5_countTo_0 (by decide) ?_
  refine lv_istore_n (lv' := [(2, .int 0), (0, .ref h_L), (1, .int a1)]) hx hb dX5_countTo_1 rfl hl (by decide) rfl (fun ls hl => ?_)
  refine lv_iconst (v := 0) hx hb dX5_countTo_2 (by decide) ?_
  refine lv_istore_n (lv' := [(3, .int 0), (2, .int 0), (0, .ref h_L), (1, .int a1)]) hx hb dX5_countTo_3 rfl hl (by decide) rfl (fun ls hl => ?_)
  refine lpW (τ := Int32 × Int32) (fun k t H locs ls c9 s9 => ((cn : Int32).toInt - (t.2 : Int32).toInt).toNat < k ∧ 0 ≤ (t.2 : Int32).toInt ∧ va_P D vwCl [(h_pk, .inl (k_pk, cap, .inl pk)), (h_L, .inr (8, [.ref h_pk, .int cn, h_L_2]))] H ∧ va_S A s.heap H locs ∧ lv_has ls 4 [(3, .int t.2), (2, .int t.1), (0, .ref h_L), (1, .int a1)] ∧ F_X5_countTo pk cn a1 = (K_X5_countTo_4 (L_X5_countTo_4 pk cn a1 k t.1 t.2)) ∧ c9 = 0 ∧ s9 = 0) (fun t H locs ls c9 s9 h9 => absurd h9.1 (Nat.not_lt_zero _)) (fun k_1 ih t H locs ls c9 s9 hI => ?_) (((cn : Int32).toInt - (0 : Int32).toInt).toNat + 1) (0, 0) ⟨Nat.lt_succ_self _, (show 0 ≤ (0 : Int32).toInt from (by decide +kernel)), hP, hS, (by exact hl), hM, rfl, rfl⟩
  obtain ⟨x4_2, x4_3⟩ := t
  obtain ⟨hk_1, hz_1, hP, hS, hl, hM, hcs, hss⟩ := hI
  replace hcs := hcs.symm
  subst hcs
  replace hss := hss.symm
  subst hss
  have hP : va_P D vwCl [(h_pk, .inl (k_pk, cap, .inl pk)), (h_L, .inr (8, [.ref h_pk, .int cn, h_L_2]))] H := hP
  have hl : lv_has ls 4 [(3, .int x4_3), (2, .int x4_2), (0, .ref h_L), (1, .int a1)] := hl
  have hz_1 : 0 ≤ (x4_3 : Int32).toInt := hz_1
  have hk_1 : ((cn : Int32).toInt - (x4_3 : Int32).toInt).toNat < k_1 + 1 := hk_1
  have hM : F_X5_countTo pk cn a1 = (K_X5_countTo_4 ((if cn ≤ x4_3 then (x4_2, x4_3) else (if (F_X5_receiverOf pk cn x4_3) = a1 then ((L_X5_countTo_4 pk cn a1 k_1) (x4_2 + 1) (x4_3 + 1)) else ((L_X5_countTo_4 pk cn a1 k_1) x4_2 (x4_3 + 1)))))) := hM
  have ih_1 := ih
  refine lv_iload_n hx hb dX5_countTo_4 rfl (lv_at hl 0 rfl) ?_
  refine lv_aload_n hx hb dX5_countTo_5 rfl (lv_at hl 2 rfl) ?_
  refine va_get (D := D) (ci := 8) (v := .int cn) (own := RX5) (C := RX5) (T := TX5) (N := 3) hx hb hts hi_X5 hown hK hP 1 rfl rfl 1 (by decide) (hts (.fieldLink RX5 15 "CanalMaps$Letters" "count" "I") (List.mem_of_getElem? (i := 1) (by decide +kernel))) (fun _ h9 => h9) rfl dX5_countTo_6 ?_
  refine lv_icmp_ge (tgt := 30) hx hb dX5_countTo_9 (by decide) (fun c_2 => ?_) (fun c_2 => ?_)
  · rw [if_pos c_2] at hM
    have hM : F_X5_countTo pk cn a1 = x4_2 := hM
    refine lv_iload_n hx hb dX5_countTo_30 rfl (lv_at hl 1 rfl) ?_
    refine W.widen (k := 0) (n := 0) (Nat.le_of_ble_eq_true rfl) (Nat.le_of_ble_eq_true rfl) ?_
    exact W.iret (v := x4_2) hx hb hr (QR_.mk hS (by rw [hM])) hS.2.2 dX5_countTo_31
  · rw [if_neg c_2] at hM
    refine lv_aload_n hx hb dX5_countTo_12 rfl (lv_at hl 2 rfl) ?_
    refine lv_iload_n hx hb dX5_countTo_13 rfl (lv_at hl 0 rfl) ?_
    obtain ⟨y9, hy9⟩ : ∃ y9, (F_X5_receiverOf pk cn x4_3) = y9 := ⟨_, rfl⟩
    have hcon := (c_X5_receiverOf l hl0 D ad H.size h_pk h_L k_pk (h_L_2) cap pk cn x4_3 (by have y0 := f_nle c_2; have z0 := hy0; have z1 := hy1; have z2 := hy2; have z3 := hy3; have z4 := hy4; have z5 := hz_1; omega) (by have y0 := f_nle c_2; have z0 := hy0; have z1 := hy1; have z2 := hy2; have z3 := hy3; have z4 := hy4; have z5 := hz_1; omega) (by have y0 := f_nle c_2; have z0 := hy0; have z1 := hy1; have z2 := hy2; have z3 := hy3; have z4 := hy4; have z5 := hz_1; omega) (by have y0 := f_nle c_2; have z0 := hy0; have z1 := hy1; have z2 := hy2; have z3 := hy3; have z4 := hy4; have z5 := hz_1; omega) (by have y0 := f_nle c_2; have z0 := hy0; have z1 := hy1; have z2 := hy2; have z3 := hy3; have z4 := hy4; have z5 := hz_1; omega))
    rw [hy9] at hcon
    refine kr_ (va_runV (As := [.int x4_3]) (rest := []) ⟨hx, hb, hml, hown, hts⟩ hcon (cwV 1 hts gX5_countTo_X5_receiverOf rfl rfl rfl (by decide +kernel) ⟨Nat.le_of_ble_eq_true rfl, Nat.le_of_ble_eq_true rfl⟩) ⟨PR_.blind, va_recv hK hP (ci := 8) (q0 := 1) rfl rfl, PR_.pre hF hK (hP.sub [0, 1] rfl) hS hA [0] rfl⟩ rfl rfl hl.1 rfl (lv_room (Nat.le_of_ble_eq_true rfl)) dX5_countTo_14 ⟨(Nat.le_of_ble_eq_true rfl), (Nat.le_of_ble_eq_true rfl)⟩) hP hS hA (fun H locs hP hS => ?_)
    subst hy9
    refine W.eq (g2 := F0 m 17 ls [.int (F_X5_receiverOf pk cn x4_3)]) rfl ?_
    refine lv_iload_n hx hb dX5_countTo_17 rfl (lv_at hl 3 rfl) ?_
    refine lv_icmp_ne (tgt := 24) hx hb dX5_countTo_18 (by decide) (fun c_4 => ?_) (fun c_4 => ?_)
    · rw [if_neg c_4] at hM
      refine lv_iinc (v := (x4_3 + 1)) (lv' := [(3, .int (x4_3 + 1)), (2, .int x4_2), (0, .ref h_L), (1, .int a1)]) hx hb dX5_countTo_24 hl (k := 0) rfl rfl (by decide) rfl (fun ls hl => ?_)
      refine lv_goto (tgt := 4) hx hb dX5_countTo_27 (by decide) ?_
      exact ih_1 (x4_2, (x4_3 + 1)) _ _ _ _ _ ⟨lp_up hk_1 c_2, lp_up0 hz_1 c_2, hP, hS, lv_sub hl [0, 1, 2, 3] rfl, hM, rfl, rfl⟩
    · rw [if_pos c_4] at hM
      refine lv_iinc (v := (x4_2 + 1)) (lv' := [(2, .int (x4_2 + 1)), (3, .int x4_3), (0, .ref h_L), (1, .int a1)]) hx hb dX5_countTo_21 hl (k := 1) rfl rfl (by decide) rfl (fun ls hl => ?_)
      refine lv_iinc (v := (x4_3 + 1)) (lv' := [(3, .int (x4_3 + 1)), (2, .int (x4_2 + 1)), (0, .ref h_L), (1, .int a1)]) hx hb dX5_countTo_24 hl (k := 1) rfl rfl (by decide) rfl (fun ls hl => ?_)
      refine lv_goto (tgt := 4) hx hb dX5_countTo_27 (by decide) ?_
      exact ih_1 ((x4_2 + 1), (x4_3 + 1)) _ _ _ _ _ ⟨lp_up hk_1 c_2, lp_up0 hz_1 c_2, hP, hS, lv_sub hl [0, 1, 2, 3] rfl, hM, rfl, rfl⟩
def F_X5_removeFirst (pk : Nat → Int32) (cn : Int32) (a1 : Int32) : (Nat → Int32) × Int32 := (if a1 < 0 then (pk, cn) else (if cn < a1 then (pk, cn) else ((va_cpy pk pk (ix a1) 0 (ix (cn - a1))), (cn - a1))))
set_option maxHeartbeats 4000000 in
set_option maxRecDepth 100000 in
theorem c_X5_removeFirst (l : Launch) (hl0 : l.stackTraces = false) (D : va_G) (ad : Nat → Nat) (sz : Nat) (h_pk : Nat) (h_L : Nat) (k_pk : ClassId) (h_L_2 : Value) (cap : Nat) (pk : Nat → Int32) (cn : Int32) (a1 : Int32) (hy0 : 0 ≤ cn.toInt) (hy1 : cn.toInt ≤ cap) (hy2 : cn.toInt ≤ 1000000) (hy3 : 64 ≤ cap) (hy4 : cap ≤ 2000000) : Met l yX5_removeFirst wsX5_removeFirst ({ frames := 1, cells := 0, slots := 0, locals := 60 }) (PC_ D ad [(h_pk, .inl (k_pk, cap, .inl pk)), (h_L, .inr (8, [.ref h_pk, .int cn, h_L_2]))] [(k_pk, .int)] sz [.ref h_L, .int a1]) (QG_ D (fun q i => none) (fun q i => 0 ≤ ((F_X5_removeFirst pk cn a1).2).toInt ∧ ((F_X5_removeFirst pk cn a1).2).toInt ≤ cn.toInt) (fun q k i => [(h_pk, .inl (k_pk, cap, .inl (F_X5_removeFirst pk cn a1).1)), (h_L, .inr (8, [.ref h_pk, .int (F_X5_removeFirst pk cn a1).2, h_L_2]))]) (fun q k i => [(k_pk, .int)]) (va_A [(h_pk, .inl (k_pk, cap, .inl pk)), (h_L, .inr (8, [.ref h_pk, .int cn, h_L_2]))] sz)) 0 0 (va_A [(h_pk, .inl (k_pk, cap, .inl pk)), (h_L, .inr (8, [.ref h_pk, .int cn, h_L_2]))] sz) := by
  refine Met.ofW (cc := cX5_removeFirst) (maxL := 2) (ret := none) (by decide) rfl ?_
  intro p e s m args below meth c s₁ B hml hv
  obtain ⟨rfl, hsz, hP, hK, hD0, hF⟩ := hv
  have hx := B.exec
  have hb := B.bytes
  have hr := B.returns
  have hts := atoms_spec (ws := wsX5_removeFirst) B.pre
  have hown : s.vm.findClass RX5 = some m.cls := findClass_of_methodNamed B.named
  have hlocks := B.notSynchronized
  subst hsz
  have hD := hD0.self (sz := s.heap.size)
  generalize hAe : va_A [(h_pk, .inl (k_pk, cap, .inl pk)), (h_L, .inr (8, [.ref h_pk, .int cn, h_L_2]))] s.heap.size = A at hD hF ⊢
  have hA : ∀ q : Nat, s.heap.size ≤ q → A q := fun q h => by rw [← hAe]; exact Or.inr h
  obtain ⟨H, hHe⟩ : ∃ H : Heap, H = s.heap := ⟨_, rfl⟩
  have hS : va_S A s.heap H [] := by rw [hHe]; exact va_S.rf
  have hP : va_P D vwCl [(h_pk, .inl (k_pk, cap, .inl pk)), (h_L, .inr (8, [.ref h_pk, .int cn, h_L_2]))] H := by rw [hHe]; exact hP
  rw [← hHe]
  have hi_X5 : ∀ w ∈ wsX50, w ∈ wsX5_removeFirst := by decide +kernel
  have hl := lv_entry [.ref h_L, .int a1] (n := 2) (Nat.le_of_ble_eq_true rfl)
  rw [lg_entry_eq]
  generalize (lg_sl [.ref h_L, .int a1] ++ List.replicate (2 - (lg_sl [.ref h_L, .int a1]).length) Slot.unset).toArray = ls at hl ⊢
  have hl : lv_has ls 2 [(0, .ref h_L), (1, .int a1)] := hl
  have hM : F_X5_removeFirst pk cn a1 = (if a1 < 0 then (pk, cn) else (if cn < a1 then (pk, cn) else ((va_cpy pk pk (ix a1) 0 (ix (cn - a1))), (cn - a1)))) := rfl
  refine lv_iload_n hx hb dX5_removeFirst_0 rfl (lv_at hl 1 rfl) ?_
  refine lv_if_lt (tgt := 41) hx hb dX5_removeFirst_1 (by decide) (fun c_1 => ?_) (fun c_1 => ?_)
  · rw [if_pos c_1] at hM
    refine W.widen (k := 0) (n := 0) (Nat.le_of_ble_eq_true rfl) (Nat.le_of_ble_eq_true rfl) ?_
    exact W.vret hx hb hr (QG_.mk (fun _ => 0) (fun _ => 0) (fun _ => 0) [0, 1] [0] hP hD hK hS rfl (by rw [hM]; exact ⟨(show 0 ≤ cn.toInt from (by have y0 := f_lt c_1; have z0 := hy0; have z1 := hy1; have z2 := hy2; have z3 := hy3; have z4 := hy4; have e_0 : (0 : Int32).toInt = 0 := (by decide +kernel); have b16 := Int32.toInt_lt (cn); have d16 := Int32.le_toInt (cn); omega)), (show cn.toInt ≤ cn.toInt from (by have y0 := f_lt c_1; have z0 := hy0; have z1 := hy1; have z2 := hy2; have z3 := hy3; have z4 := hy4; have e_0 : (0 : Int32).toInt = 0 := (by decide +kernel); have b17 := Int32.toInt_lt (cn); have d17 := Int32.le_toInt (cn); omega))⟩) (by first | (rw [hM]; rfl) | rfl) (by decide) rfl) hS.2.2 dX5_removeFirst_41
  · rw [if_neg c_1] at hM
    refine lv_iload_n hx hb dX5_removeFirst_4 rfl (lv_at hl 1 rfl) ?_
    refine lv_aload_n hx hb dX5_removeFirst_5 rfl (lv_at hl 0 rfl) ?_
    refine va_get (D := D) (ci := 8) (v := .int cn) (own := RX5) (C := RX5) (T := TX5) (N := 3) hx hb hts hi_X5 hown hK hP 1 rfl rfl 1 (by decide) (hts (.fieldLink RX5 15 "CanalMaps$Letters" "count" "I") (List.mem_of_getElem? (i := 1) (by decide +kernel))) (fun _ h9 => h9) rfl dX5_removeFirst_6 ?_
    refine lv_icmp_gt (tgt := 41) hx hb dX5_removeFirst_9 (by decide) (fun c_2 => ?_) (fun c_2 => ?_)
    · rw [if_pos c_2] at hM
      refine W.widen (k := 0) (n := 0) (Nat.le_of_ble_eq_true rfl) (Nat.le_of_ble_eq_true rfl) ?_
      exact W.vret hx hb hr (QG_.mk (fun _ => 0) (fun _ => 0) (fun _ => 0) [0, 1] [0] hP hD hK hS rfl (by rw [hM]; exact ⟨(show 0 ≤ cn.toInt from (by have y0 := f_nlt c_1; have y1 := f_lt c_2; have z0 := hy0; have z1 := hy1; have z2 := hy2; have z3 := hy3; have z4 := hy4; have e_0 : (0 : Int32).toInt = 0 := (by decide +kernel); have b18 := Int32.toInt_lt (cn); have d18 := Int32.le_toInt (cn); omega)), (show cn.toInt ≤ cn.toInt from (by have y0 := f_nlt c_1; have y1 := f_lt c_2; have z0 := hy0; have z1 := hy1; have z2 := hy2; have z3 := hy3; have z4 := hy4; have e_0 : (0 : Int32).toInt = 0 := (by decide +kernel); have b19 := Int32.toInt_lt (cn); have d19 := Int32.le_toInt (cn); omega))⟩) (by first | (rw [hM]; rfl) | rfl) (by decide) rfl) hS.2.2 dX5_removeFirst_41
    · rw [if_neg c_2] at hM
      refine lv_aload_n hx hb dX5_removeFirst_12 rfl (lv_at hl 0 rfl) ?_
      refine va_get (D := D) (ci := 8) (v := .ref h_pk) (own := RX5) (C := RX5) (T := TX5) (N := 3) hx hb hts hi_X5 hown hK hP 1 rfl rfl 0 (by decide) (hts (.fieldLink RX5 11 "CanalMaps$Letters" "packed" "[I") (List.mem_of_getElem? (i := 2) (by decide +kernel))) (fun _ h9 => h9) rfl dX5_removeFirst_13 ?_
      refine lv_iload_n hx hb dX5_removeFirst_16 rfl (lv_at hl 1 rfl) ?_
      refine lv_aload_n hx hb dX5_removeFirst_17 rfl (lv_at hl 0 rfl) ?_
      refine va_get (D := D) (ci := 8) (v := .ref h_pk) (own := RX5) (C := RX5) (T := TX5) (N := 3) hx hb hts hi_X5 hown hK hP 1 rfl rfl 0 (by decide) (hts (.fieldLink RX5 11 "CanalMaps$Letters" "packed" "[I") (List.mem_of_getElem? (i := 2) (by decide +kernel))) (fun _ h9 => h9) rfl dX5_removeFirst_18 ?_
      refine lv_iconst (v := 0) hx hb dX5_removeFirst_21 (by decide) ?_
      refine lv_aload_n hx hb dX5_removeFirst_22 rfl (lv_at hl 0 rfl) ?_
      refine va_get (D := D) (ci := 8) (v := .int cn) (own := RX5) (C := RX5) (T := TX5) (N := 3) hx hb hts hi_X5 hown hK hP 1 rfl rfl 1 (by decide) (hts (.fieldLink RX5 15 "CanalMaps$Letters" "count" "I") (List.mem_of_getElem? (i := 1) (by decide +kernel))) (fun _ h9 => h9) rfl dX5_removeFirst_23 ?_
      refine lv_iload_n hx hb dX5_removeFirst_26 rfl (lv_at hl 1 rfl) ?_
      refine lv_isub hx hb dX5_removeFirst_27 ?_
      refine ka_copyi (g9 := (va_cpy pk pk (ix a1) 0 (ix (cn - a1)))) (own := RX5) hx hb (by rw [hml]; exact hl.1.symm) hown (hts (.methodLink RX5 45 arraycopyName) (List.mem_of_getElem? (i := 3) (by decide +kernel))) (hts (.native arraycopyName) (List.mem_of_getElem? (i := 4) (by decide +kernel))) (hts (.static arraycopyName) (List.mem_of_getElem? (i := 5) (by decide +kernel))) (hts (.initialized "java/lang/System") (List.mem_of_getElem? (i := 6) (by decide +kernel))) hK hP hD hS 0 0 0 0 rfl rfl rfl rfl (ty := .int) rfl (nlt0 (by have y0 := f_nlt c_1; have y1 := f_nlt c_2; have z0 := hy0; have z1 := hy1; have z2 := hy2; have z3 := hy3; have z4 := hy4; have e_0 : (0 : Int32).toInt = 0 := (by decide +kernel); have b21 := Int32.toInt_lt (cn); have d21 := Int32.le_toInt (cn); have b22 := Int32.toInt_lt (a1); have d22 := Int32.le_toInt (a1); have q20 := subI (a := cn) (b := a1) (by omega) (by omega); have l23 : (0 : Int32).toInt = 0 := (by decide +kernel); have b24 := Int32.toInt_lt (a1); have d24 := Int32.le_toInt (a1); omega)) (nlt0 (by have y0 := f_nlt c_1; have y1 := f_nlt c_2; have z0 := hy0; have z1 := hy1; have z2 := hy2; have z3 := hy3; have z4 := hy4; have e_0 : (0 : Int32).toInt = 0 := (by decide +kernel); have b21 := Int32.toInt_lt (cn); have d21 := Int32.le_toInt (cn); have b22 := Int32.toInt_lt (a1); have d22 := Int32.le_toInt (a1); have q20 := subI (a := cn) (b := a1) (by omega) (by omega); have l23 : (0 : Int32).toInt = 0 := (by decide +kernel); have b24 := Int32.toInt_lt (a1); have d24 := Int32.le_toInt (a1); omega)) (nlt0 (by have y0 := f_nlt c_1; have y1 := f_nlt c_2; have z0 := hy0; have z1 := hy1; have z2 := hy2; have z3 := hy3; have z4 := hy4; have e_0 : (0 : Int32).toInt = 0 := (by decide +kernel); have b21 := Int32.toInt_lt (cn); have d21 := Int32.le_toInt (cn); have b22 := Int32.toInt_lt (a1); have d22 := Int32.le_toInt (a1); have q20 := subI (a := cn) (b := a1) (by omega) (by omega); have l23 : (0 : Int32).toInt = 0 := (by decide +kernel); have b24 := Int32.toInt_lt (a1); have d24 := Int32.le_toInt (a1); omega)) (cpb_ (by have y0 := f_nlt c_1; have y1 := f_nlt c_2; have z0 := hy0; have z1 := hy1; have z2 := hy2; have z3 := hy3; have z4 := hy4; have e_0 : (0 : Int32).toInt = 0 := (by decide +kernel); have b21 := Int32.toInt_lt (cn); have d21 := Int32.le_toInt (cn); have b22 := Int32.toInt_lt (a1); have d22 := Int32.le_toInt (a1); have q20 := subI (a := cn) (b := a1) (by omega) (by omega); have l23 : (0 : Int32).toInt = 0 := (by decide +kernel); have b24 := Int32.toInt_lt (a1); have d24 := Int32.le_toInt (a1); omega) (by have y0 := f_nlt c_1; have y1 := f_nlt c_2; have z0 := hy0; have z1 := hy1; have z2 := hy2; have z3 := hy3; have z4 := hy4; have e_0 : (0 : Int32).toInt = 0 := (by decide +kernel); have b21 := Int32.toInt_lt (cn); have d21 := Int32.le_toInt (cn); have b22 := Int32.toInt_lt (a1); have d22 := Int32.le_toInt (a1); have q20 := subI (a := cn) (b := a1) (by omega) (by omega); have l23 : (0 : Int32).toInt = 0 := (by decide +kernel); have b24 := Int32.toInt_lt (a1); have d24 := Int32.le_toInt (a1); omega) (by have y0 := f_nlt c_1; have y1 := f_nlt c_2; have z0 := hy0; have z1 := hy1; have z2 := hy2; have z3 := hy3; have z4 := hy4; have e_0 : (0 : Int32).toInt = 0 := (by decide +kernel); have b21 := Int32.toInt_lt (cn); have d21 := Int32.le_toInt (cn); have b22 := Int32.toInt_lt (a1); have d22 := Int32.le_toInt (a1); have q20 := subI (a := cn) (b := a1) (by omega) (by omega); have l23 : (0 : Int32).toInt = 0 := (by decide +kernel); have b24 := Int32.toInt_lt (a1); have d24 := Int32.le_toInt (a1); omega)) (cpb_ (by have y0 := f_nlt c_1; have y1 := f_nlt c_2; have z0 := hy0; have z1 := hy1; have z2 := hy2; have z3 := hy3; have z4 := hy4; have e_0 : (0 : Int32).toInt = 0 := (by decide +kernel); have b21 := Int32.toInt_lt (cn); have d21 := Int32.le_toInt (cn); have b22 := Int32.toInt_lt (a1); have d22 := Int32.le_toInt (a1); have q20 := subI (a := cn) (b := a1) (by omega) (by omega); have l23 : (0 : Int32).toInt = 0 := (by decide +kernel); have b24 := Int32.toInt_lt (a1); have d24 := Int32.le_toInt (a1); omega) (by have y0 := f_nlt c_1; have y1 := f_nlt c_2; have z0 := hy0; have z1 := hy1; have z2 := hy2; have z3 := hy3; have z4 := hy4; have e_0 : (0 : Int32).toInt = 0 := (by decide +kernel); have b21 := Int32.toInt_lt (cn); have d21 := Int32.le_toInt (cn); have b22 := Int32.toInt_lt (a1); have d22 := Int32.le_toInt (a1); have q20 := subI (a := cn) (b := a1) (by omega) (by omega); have l23 : (0 : Int32).toInt = 0 := (by decide +kernel); have b24 := Int32.toInt_lt (a1); have d24 := Int32.le_toInt (a1); omega) (by have y0 := f_nlt c_1; have y1 := f_nlt c_2; have z0 := hy0; have z1 := hy1; have z2 := hy2; have z3 := hy3; have z4 := hy4; have e_0 : (0 : Int32).toInt = 0 := (by decide +kernel); have b21 := Int32.toInt_lt (cn); have d21 := Int32.le_toInt (cn); have b22 := Int32.toInt_lt (a1); have d22 := Int32.le_toInt (a1); have q20 := subI (a := cn) (b := a1) (by omega) (by omega); have l23 : (0 : Int32).toInt = 0 := (by decide +kernel); have b24 := Int32.toInt_lt (a1); have d24 := Int32.le_toInt (a1); omega)) (fun _ _ => rfl) rfl (Nat.le_of_ble_eq_true rfl) (Nat.le_of_ble_eq_true rfl) dX5_removeFirst_28 (fun H locs hP hD hS => ?_)
      have hP : va_P D vwCl [(h_pk, .inl (k_pk, cap, .inl (va_cpy pk pk (ix a1) 0 (ix (cn - a1))))), (h_L, .inr (8, [.ref h_pk, .int cn, h_L_2]))] H := hP
      have hD : va_D A [(h_pk, .inl (k_pk, cap, .inl (va_cpy pk pk (ix a1) 0 (ix (cn - a1))))), (h_L, .inr (8, [.ref h_pk, .int cn, h_L_2]))] := hD
      refine lv_aload_n hx hb dX5_removeFirst_31 rfl (lv_at hl 0 rfl) ?_
      refine lv_dup hx hb dX5_removeFirst_32 rfl ?_
      refine va_get (D := D) (ci := 8) (v := .int cn) (own := RX5) (C := RX5) (T := TX5) (N := 3) hx hb hts hi_X5 hown hK hP 1 rfl rfl 1 (by decide) (hts (.fieldLink RX5 15 "CanalMaps$Letters" "count" "I") (List.mem_of_getElem? (i := 1) (by decide +kernel))) (fun _ h9 => h9) rfl dX5_removeFirst_33 ?_
      refine lv_iload_n hx hb dX5_removeFirst_36 rfl (lv_at hl 1 rfl) ?_
      refine lv_isub hx hb dX5_removeFirst_37 ?_
      refine va_put (D := D) (ci := 8) (v := .int (cn - a1)) (ty := .int) (own := RX5) (C := RX5) (T := TX5) (N := 3) hx hb hts hi_X5 tyX5 tyX5_ok nmX5 hown hK hP hD hS 1 rfl rfl 1 (by decide) (hts (.fieldLink RX5 15 "CanalMaps$Letters" "count" "I") (List.mem_of_getElem? (i := 1) (by decide +kernel))) (fun _ h9 => h9) rfl (by decide +kernel) rfl rfl (Nat.le_of_ble_eq_true rfl) dX5_removeFirst_38 (fun H locs hP hD hS => ?_)
      have hP : va_P D vwCl [(h_pk, .inl (k_pk, cap, .inl (va_cpy pk pk (ix a1) 0 (ix (cn - a1))))), (h_L, .inr (8, [.ref h_pk, .int (cn - a1), h_L_2]))] H := hP
      have hD : va_D A [(h_pk, .inl (k_pk, cap, .inl (va_cpy pk pk (ix a1) 0 (ix (cn - a1))))), (h_L, .inr (8, [.ref h_pk, .int (cn - a1), h_L_2]))] := hD
      refine W.widen (k := 0) (n := 0) (Nat.le_of_ble_eq_true rfl) (Nat.le_of_ble_eq_true rfl) ?_
      exact W.vret hx hb hr (QG_.mk (fun _ => 0) (fun _ => 0) (fun _ => 0) [0, 1] [0] hP hD hK hS rfl (by rw [hM]; exact ⟨(show 0 ≤ (cn - a1).toInt from (by have y0 := f_nlt c_1; have y1 := f_nlt c_2; have z0 := hy0; have z1 := hy1; have z2 := hy2; have z3 := hy3; have z4 := hy4; have e_0 : (0 : Int32).toInt = 0 := (by decide +kernel); have b26 := Int32.toInt_lt (cn); have d26 := Int32.le_toInt (cn); have b27 := Int32.toInt_lt (a1); have d27 := Int32.le_toInt (a1); have q25 := subI (a := cn) (b := a1) (by omega) (by omega); omega)), (show (cn - a1).toInt ≤ cn.toInt from (by have y0 := f_nlt c_1; have y1 := f_nlt c_2; have z0 := hy0; have z1 := hy1; have z2 := hy2; have z3 := hy3; have z4 := hy4; have e_0 : (0 : Int32).toInt = 0 := (by decide +kernel); have b29 := Int32.toInt_lt (cn); have d29 := Int32.le_toInt (cn); have b30 := Int32.toInt_lt (a1); have d30 := Int32.le_toInt (a1); have q28 := subI (a := cn) (b := a1) (by omega) (by omega); omega))⟩) (by first | (rw [hM]; rfl) | rfl) (by decide) rfl) hS.2.2 dX5_removeFirst_41
def B_X5_removeOf_4 (cn : Int32) (a1 : Int32) (rc_4 : Int32 → Int32 → (Nat → Int32) → (Int32 × Int32 × (Nat → Int32))) (x4_2 : Int32) (x4_3 : Int32) (x4_h_pk : Nat → Int32) : Int32 × Int32 × (Nat → Int32) := (if cn ≤ x4_3 then (x4_2, x4_3, x4_h_pk) else (if (F_X5_senderOf x4_h_pk cn x4_3) = a1 then (rc_4 x4_2 (x4_3 + 1) x4_h_pk) else (if (F_X5_receiverOf x4_h_pk cn x4_3) = a1 then (rc_4 x4_2 (x4_3 + 1) x4_h_pk) else (rc_4 (x4_2 + 1) (x4_3 + 1) (upd x4_h_pk (ix x4_2) (x4_h_pk (ix x4_3)))))))
def L_X5_removeOf_4 (cn : Int32) (a1 : Int32) : Nat → Int32 → Int32 → (Nat → Int32) → (Int32 × Int32 × (Nat → Int32))
  | 0 => fun x4_2 x4_3 x4_h_pk => (x4_2, x4_3, x4_h_pk)
  | k + 1 => B_X5_removeOf_4 cn a1 (L_X5_removeOf_4 cn a1 k)
def K_X5_removeOf_4 (cn : Int32) : (Int32 × Int32 × (Nat → Int32)) → (Int32 × (Nat → Int32) × Int32)
  | (x4_2, x4_3, x4_h_pk) => ((cn - x4_2), x4_h_pk, x4_2)
def F_X5_removeOf (pk : Nat → Int32) (cn : Int32) (a1 : Int32) : Int32 × (Nat → Int32) × Int32 := (K_X5_removeOf_4 cn (L_X5_removeOf_4 cn a1 (((cn : Int32).toInt - (0 : Int32).toInt).toNat + 1) 0 0 pk))
set_option maxHeartbeats 4000000 in
set_option maxRecDepth 100000 in
theorem c_X5_removeOf (l : Launch) (hl0 : l.stackTraces = false) (D : va_G) (ad : Nat → Nat) (sz : Nat) (h_pk : Nat) (h_L : Nat) (k_pk : ClassId) (h_L_2 : Value) (cap : Nat) (pk : Nat → Int32) (cn : Int32) (a1 : Int32) (hy0 : 0 ≤ cn.toInt) (hy1 : cn.toInt ≤ cap) (hy2 : cn.toInt ≤ 1000000) (hy3 : 64 ≤ cap) (hy4 : cap ≤ 2000000) : Met l yX5_removeOf wsX5_removeOf ({ frames := 2, cells := 0, slots := 0, locals := 47 }) (PC_ D ad [(h_pk, .inl (k_pk, cap, .inl pk)), (h_L, .inr (8, [.ref h_pk, .int cn, h_L_2]))] [(k_pk, .int)] sz [.ref h_L, .int a1]) (QG_ D (fun q i => some (.int (F_X5_removeOf pk cn a1).1)) (fun q i => 0 ≤ ((F_X5_removeOf pk cn a1).2.2).toInt ∧ ((F_X5_removeOf pk cn a1).2.2).toInt ≤ cn.toInt) (fun q k i => [(h_pk, .inl (k_pk, cap, .inl (F_X5_removeOf pk cn a1).2.1)), (h_L, .inr (8, [.ref h_pk, .int (F_X5_removeOf pk cn a1).2.2, h_L_2]))]) (fun q k i => [(k_pk, .int)]) (va_A [(h_pk, .inl (k_pk, cap, .inl pk)), (h_L, .inr (8, [.ref h_pk, .int cn, h_L_2]))] sz)) 0 0 (va_A [(h_pk, .inl (k_pk, cap, .inl pk)), (h_L, .inr (8, [.ref h_pk, .int cn, h_L_2]))] sz) := by
  refine Met.ofW (cc := cX5_removeOf) (maxL := 4) (ret := (some .int)) (by decide) rfl ?_
  intro p e s m args below meth c s₁ B hml hv
  obtain ⟨rfl, hsz, hP, hK, hD0, hF⟩ := hv
  have hx := B.exec
  have hb := B.bytes
  have hr := B.returns
  have hts := atoms_spec (ws := wsX5_removeOf) B.pre
  have hown : s.vm.findClass RX5 = some m.cls := findClass_of_methodNamed B.named
  have hlocks := B.notSynchronized
  subst hsz
  have hD := hD0.self (sz := s.heap.size)
  generalize hAe : va_A [(h_pk, .inl (k_pk, cap, .inl pk)), (h_L, .inr (8, [.ref h_pk, .int cn, h_L_2]))] s.heap.size = A at hD hF ⊢
  have hA : ∀ q : Nat, s.heap.size ≤ q → A q := fun q h => by rw [← hAe]; exact Or.inr h
  obtain ⟨H, hHe⟩ : ∃ H : Heap, H = s.heap := ⟨_, rfl⟩
  have hS : va_S A s.heap H [] := by rw [hHe]; exact va_S.rf
  have hP : va_P D vwCl [(h_pk, .inl (k_pk, cap, .inl pk)), (h_L, .inr (8, [.ref h_pk, .int cn, h_L_2]))] H := by rw [hHe]; exact hP
  rw [← hHe]
  have hi_X5 : ∀ w ∈ wsX50, w ∈ wsX5_removeOf := by decide +kernel
  have hl := lv_entry [.ref h_L, .int a1] (n := 4) (Nat.le_of_ble_eq_true rfl)
  rw [lg_entry_eq]
  generalize (lg_sl [.ref h_L, .int a1] ++ List.replicate (4 - (lg_sl [.ref h_L, .int a1]).length) Slot.unset).toArray = ls at hl ⊢
  have hl : lv_has ls 4 [(0, .ref h_L), (1, .int a1)] := hl
  have hM : F_X5_removeOf pk cn a1 = (K_X5_removeOf_4 cn (L_X5_removeOf_4 cn a1 (((cn : Int32).toInt - (0 : Int32).toInt).toNat + 1) 0 0 pk)) := rfl
  refine lv_iconst (v := 0) hx hb dX5_removeOf_0 (by decide) ?_
  refine lv_istore_n (lv' := [(2, .int 0), (0, .ref h_L), (1, .int a1)]) hx hb dX5_removeOf_1 rfl hl (by decide) rfl (fun ls hl => ?_)
  refine lv_iconst (v := 0) hx hb dX5_removeOf_2 (by decide) ?_
  refine lv_istore_n (lv' := [(3, .int 0), (2, .int 0), (0, .ref h_L), (1, .int a1)]) hx hb dX5_removeOf_3 rfl hl (by decide) rfl (fun ls hl => ?_)
  refine lpW (τ := Int32 × Int32 × (Nat → Int32)) (fun k t H locs ls c9 s9 => ((cn : Int32).toInt - (t.2.1 : Int32).toInt).toNat < k ∧ 0 ≤ (t.2.1 : Int32).toInt ∧ 0 ≤ (t.1 : Int32).toInt ∧ (t.1 : Int32).toInt ≤ (t.2.1 : Int32).toInt ∧ (t.2.1 : Int32).toInt ≤ cn.toInt ∧ va_P D vwCl [(h_pk, .inl (k_pk, cap, .inl t.2.2)), (h_L, .inr (8, [.ref h_pk, .int cn, h_L_2]))] H ∧ va_D A [(h_pk, .inl (k_pk, cap, .inl t.2.2)), (h_L, .inr (8, [.ref h_pk, .int cn, h_L_2]))] ∧ va_S A s.heap H locs ∧ lv_has ls 4 [(3, .int t.2.1), (2, .int t.1), (0, .ref h_L), (1, .int a1)] ∧ F_X5_removeOf pk cn a1 = (K_X5_removeOf_4 cn (L_X5_removeOf_4 cn a1 k t.1 t.2.1 t.2.2)) ∧ c9 = 0 ∧ s9 = 0) (fun t H locs ls c9 s9 h9 => absurd h9.1 (Nat.not_lt_zero _)) (fun k_1 ih t H locs ls c9 s9 hI => ?_) (((cn : Int32).toInt - (0 : Int32).toInt).toNat + 1) (0, 0, pk) ⟨Nat.lt_succ_self _, (show 0 ≤ (0 : Int32).toInt from (by decide +kernel)), (show 0 ≤ (0 : Int32).toInt from (by have z0 := hy0; have z1 := hy1; have z2 := hy2; have z3 := hy3; have z4 := hy4; have l25 : (0 : Int32).toInt = 0 := (by decide +kernel); omega)), (show (0 : Int32).toInt ≤ (0 : Int32).toInt from (by have z0 := hy0; have z1 := hy1; have z2 := hy2; have z3 := hy3; have z4 := hy4; have l26 : (0 : Int32).toInt = 0 := (by decide +kernel); have l27 : (0 : Int32).toInt = 0 := (by decide +kernel); omega)), (show (0 : Int32).toInt ≤ cn.toInt from (by have z0 := hy0; have z1 := hy1; have z2 := hy2; have z3 := hy3; have z4 := hy4; have l28 : (0 : Int32).toInt = 0 := (by decide +kernel); omega)), hP, hD, hS, (by exact hl), hM, rfl, rfl⟩
  obtain ⟨x4_2, x4_3, x4_h_pk⟩ := t
  obtain ⟨hk_1, hz_1, hv_1_0, hv_1_1, hv_1_2, hP, hD, hS, hl, hM, hcs, hss⟩ := hI
  replace hcs := hcs.symm
  subst hcs
  replace hss := hss.symm
  subst hss
  have hP : va_P D vwCl [(h_pk, .inl (k_pk, cap, .inl x4_h_pk)), (h_L, .inr (8, [.ref h_pk, .int cn, h_L_2]))] H := hP
  have hD : va_D A [(h_pk, .inl (k_pk, cap, .inl x4_h_pk)), (h_L, .inr (8, [.ref h_pk, .int cn, h_L_2]))] := hD
  have hl : lv_has ls 4 [(3, .int x4_3), (2, .int x4_2), (0, .ref h_L), (1, .int a1)] := hl
  have hz_1 : 0 ≤ (x4_3 : Int32).toInt := hz_1
  have hv_1_0 : 0 ≤ (x4_2 : Int32).toInt := hv_1_0
  have hv_1_1 : (x4_2 : Int32).toInt ≤ (x4_3 : Int32).toInt := hv_1_1
  have hv_1_2 : (x4_3 : Int32).toInt ≤ cn.toInt := hv_1_2
  have hk_1 : ((cn : Int32).toInt - (x4_3 : Int32).toInt).toNat < k_1 + 1 := hk_1
  have hM : F_X5_removeOf pk cn a1 = (K_X5_removeOf_4 cn ((if cn ≤ x4_3 then (x4_2, x4_3, x4_h_pk) else (if (F_X5_senderOf x4_h_pk cn x4_3) = a1 then ((L_X5_removeOf_4 cn a1 k_1) x4_2 (x4_3 + 1) x4_h_pk) else (if (F_X5_receiverOf x4_h_pk cn x4_3) = a1 then ((L_X5_removeOf_4 cn a1 k_1) x4_2 (x4_3 + 1) x4_h_pk) else ((L_X5_removeOf_4 cn a1 k_1) (x4_2 + 1) (x4_3 + 1) (upd x4_h_pk (ix x4_2) (x4_h_pk (ix x4_3))))))))) := hM
  have ih_1 := ih
  refine lv_iload_n hx hb dX5_removeOf_4 rfl (lv_at hl 0 rfl) ?_
  refine lv_aload_n hx hb dX5_removeOf_5 rfl (lv_at hl 2 rfl) ?_
  refine va_get (D := D) (ci := 8) (v := .int cn) (own := RX5) (C := RX5) (T := TX5) (N := 3) hx hb hts hi_X5 hown hK hP 1 rfl rfl 1 (by decide) (hts (.fieldLink RX5 15 "CanalMaps$Letters" "count" "I") (List.mem_of_getElem? (i := 1) (by decide +kernel))) (fun _ h9 => h9) rfl dX5_removeOf_6 ?_
  refine lv_icmp_ge (tgt := 51) hx hb dX5_removeOf_9 (by decide) (fun c_2 => ?_) (fun c_2 => ?_)
  · rw [if_pos c_2] at hM
    have hM : F_X5_removeOf pk cn a1 = ((cn - x4_2), x4_h_pk, x4_2) := hM
    refine lv_aload_n hx hb dX5_removeOf_51 rfl (lv_at hl 2 rfl) ?_
    refine va_get (D := D) (ci := 8) (v := .int cn) (own := RX5) (C := RX5) (T := TX5) (N := 3) hx hb hts hi_X5 hown hK hP 1 rfl rfl 1 (by decide) (hts (.fieldLink RX5 15 "CanalMaps$Letters" "count" "I") (List.mem_of_getElem? (i := 1) (by decide +kernel))) (fun _ h9 => h9) rfl dX5_removeOf_52 ?_
    refine lv_iload_n hx hb dX5_removeOf_55 rfl (lv_at hl 1 rfl) ?_
    refine lv_isub hx hb dX5_removeOf_56 ?_
    refine lv_istore_n (lv' := [(3, .int (cn - x4_2)), (2, .int x4_2), (0, .ref h_L), (1, .int a1)]) hx hb dX5_removeOf_57 rfl hl (by decide) rfl (fun ls hl => ?_)
    refine lv_aload_n hx hb dX5_removeOf_58 rfl (lv_at hl 2 rfl) ?_
    refine lv_iload_n hx hb dX5_removeOf_59 rfl (lv_at hl 1 rfl) ?_
    refine va_put (D := D) (ci := 8) (v := .int x4_2) (ty := .int) (own := RX5) (C := RX5) (T := TX5) (N := 3) hx hb hts hi_X5 tyX5 tyX5_ok nmX5 hown hK hP hD hS 1 rfl rfl 1 (by decide) (hts (.fieldLink RX5 15 "CanalMaps$Letters" "count" "I") (List.mem_of_getElem? (i := 1) (by decide +kernel))) (fun _ h9 => h9) rfl (by decide +kernel) rfl rfl (Nat.le_of_ble_eq_true rfl) dX5_removeOf_60 (fun H locs hP hD hS => ?_)
    have hP : va_P D vwCl [(h_pk, .inl (k_pk, cap, .inl x4_h_pk)), (h_L, .inr (8, [.ref h_pk, .int x4_2, h_L_2]))] H := hP
    have hD : va_D A [(h_pk, .inl (k_pk, cap, .inl x4_h_pk)), (h_L, .inr (8, [.ref h_pk, .int x4_2, h_L_2]))] := hD
    refine lv_iload_n hx hb dX5_removeOf_63 rfl (lv_at hl 0 rfl) ?_
    refine W.widen (k := 0) (n := 0) (Nat.le_of_ble_eq_true rfl) (Nat.le_of_ble_eq_true rfl) ?_
    exact W.iret (v := (cn - x4_2)) hx hb hr (QG_.mk (fun _ => 0) (fun _ => 0) (fun _ => 0) [0, 1] [0] hP hD hK hS (by rw [hM]) (by rw [hM]; exact ⟨(show 0 ≤ x4_2.toInt from (by have y0 := f_le c_2; have z0 := hy0; have z1 := hy1; have z2 := hy2; have z3 := hy3; have z4 := hy4; have z5 := hz_1; have z6 := hv_1_0; have z7 := hv_1_1; have z8 := hv_1_2; have b29 := Int32.toInt_lt (x4_2); have d29 := Int32.le_toInt (x4_2); omega)), (show x4_2.toInt ≤ cn.toInt from (by have y0 := f_le c_2; have z0 := hy0; have z1 := hy1; have z2 := hy2; have z3 := hy3; have z4 := hy4; have z5 := hz_1; have z6 := hv_1_0; have z7 := hv_1_1; have z8 := hv_1_2; have b30 := Int32.toInt_lt (x4_2); have d30 := Int32.le_toInt (x4_2); omega))⟩) (by first | (rw [hM]; rfl) | rfl) (by decide) rfl) hS.2.2 dX5_removeOf_64
  · rw [if_neg c_2] at hM
    refine lv_aload_n hx hb dX5_removeOf_12 rfl (lv_at hl 2 rfl) ?_
    refine lv_iload_n hx hb dX5_removeOf_13 rfl (lv_at hl 0 rfl) ?_
    obtain ⟨y9, hy9⟩ : ∃ y9, (F_X5_senderOf x4_h_pk cn x4_3) = y9 := ⟨_, rfl⟩
    have hcon := (c_X5_senderOf l hl0 D ad H.size h_pk h_L k_pk (h_L_2) cap x4_h_pk cn x4_3 (by have y0 := f_nle c_2; have z0 := hy0; have z1 := hy1; have z2 := hy2; have z3 := hy3; have z4 := hy4; have z5 := hz_1; have z6 := hv_1_0; have z7 := hv_1_1; have z8 := hv_1_2; omega) (by have y0 := f_nle c_2; have z0 := hy0; have z1 := hy1; have z2 := hy2; have z3 := hy3; have z4 := hy4; have z5 := hz_1; have z6 := hv_1_0; have z7 := hv_1_1; have z8 := hv_1_2; omega) (by have y0 := f_nle c_2; have z0 := hy0; have z1 := hy1; have z2 := hy2; have z3 := hy3; have z4 := hy4; have z5 := hz_1; have z6 := hv_1_0; have z7 := hv_1_1; have z8 := hv_1_2; omega) (by have y0 := f_nle c_2; have z0 := hy0; have z1 := hy1; have z2 := hy2; have z3 := hy3; have z4 := hy4; have z5 := hz_1; have z6 := hv_1_0; have z7 := hv_1_1; have z8 := hv_1_2; omega) (by have y0 := f_nle c_2; have z0 := hy0; have z1 := hy1; have z2 := hy2; have z3 := hy3; have z4 := hy4; have z5 := hz_1; have z6 := hv_1_0; have z7 := hv_1_1; have z8 := hv_1_2; omega))
    rw [hy9] at hcon
    refine kr_ (va_runV (As := [.int x4_3]) (rest := []) ⟨hx, hb, hml, hown, hts⟩ hcon (cwV 1 hts gX5_removeOf_X5_senderOf rfl rfl rfl (by decide +kernel) ⟨Nat.le_of_ble_eq_true rfl, Nat.le_of_ble_eq_true rfl⟩) ⟨PR_.blind, va_recv hK hP (ci := 8) (q0 := 1) rfl rfl, PR_.pre hF hK (hP.sub [0, 1] rfl) hS hA [0] rfl⟩ rfl rfl hl.1 rfl (lv_room (Nat.le_of_ble_eq_true rfl)) dX5_removeOf_14 ⟨(Nat.le_of_ble_eq_true rfl), (Nat.le_of_ble_eq_true rfl)⟩) hP hS hA (fun H locs hP hS => ?_)
    subst hy9
    refine W.eq (g2 := F0 m 17 ls [.int (F_X5_senderOf x4_h_pk cn x4_3)]) rfl ?_
    refine lv_iload_n hx hb dX5_removeOf_17 rfl (lv_at hl 3 rfl) ?_
    refine lv_icmp_eq (tgt := 45) hx hb dX5_removeOf_18 (by decide) (fun c_4 => ?_) (fun c_4 => ?_)
    · rw [if_pos c_4] at hM
      refine lv_iinc (v := (x4_3 + 1)) (lv' := [(3, .int (x4_3 + 1)), (2, .int x4_2), (0, .ref h_L), (1, .int a1)]) hx hb dX5_removeOf_45 hl (k := 0) rfl rfl (by decide) rfl (fun ls hl => ?_)
      refine lv_goto (tgt := 4) hx hb dX5_removeOf_48 (by decide) ?_
      exact ih_1 (x4_2, (x4_3 + 1), x4_h_pk) _ _ _ _ _ ⟨lp_up hk_1 c_2, lp_up0 hz_1 c_2, (show 0 ≤ (x4_2 : Int32).toInt from (by have y0 := f_nle c_2; have y1 := f_eq c_4; have z0 := hy0; have z1 := hy1; have z2 := hy2; have z3 := hy3; have z4 := hy4; have z5 := hz_1; have z6 := hv_1_0; have z7 := hv_1_1; have z8 := hv_1_2; have b31 := Int32.toInt_lt (x4_2); have d31 := Int32.le_toInt (x4_2); omega)), (show (x4_2 : Int32).toInt ≤ ((x4_3 + 1) : Int32).toInt from (by have y0 := f_nle c_2; have y1 := f_eq c_4; have z0 := hy0; have z1 := hy1; have z2 := hy2; have z3 := hy3; have z4 := hy4; have z5 := hz_1; have z6 := hv_1_0; have z7 := hv_1_1; have z8 := hv_1_2; have b32 := Int32.toInt_lt (x4_2); have d32 := Int32.le_toInt (x4_2); have b34 := Int32.toInt_lt (x4_3); have d34 := Int32.le_toInt (x4_3); have l35 : (1 : Int32).toInt = 1 := (by decide +kernel); have q33 := addI (a := x4_3) (b := 1) (by omega) (by omega); omega)), (show ((x4_3 + 1) : Int32).toInt ≤ cn.toInt from (by have y0 := f_nle c_2; have y1 := f_eq c_4; have z0 := hy0; have z1 := hy1; have z2 := hy2; have z3 := hy3; have z4 := hy4; have z5 := hz_1; have z6 := hv_1_0; have z7 := hv_1_1; have z8 := hv_1_2; have b37 := Int32.toInt_lt (x4_3); have d37 := Int32.le_toInt (x4_3); have l38 : (1 : Int32).toInt = 1 := (by decide +kernel); have q36 := addI (a := x4_3) (b := 1) (by omega) (by omega); omega)), hP, hD, hS, lv_sub hl [0, 1, 2, 3] rfl, hM, rfl, rfl⟩
    · rw [if_neg c_4] at hM
      refine lv_aload_n hx hb dX5_removeOf_21 rfl (lv_at hl 2 rfl) ?_
      refine lv_iload_n hx hb dX5_removeOf_22 rfl (lv_at hl 0 rfl) ?_
      obtain ⟨y9, hy9⟩ : ∃ y9, (F_X5_receiverOf x4_h_pk cn x4_3) = y9 := ⟨_, rfl⟩
      have hcon := (c_X5_receiverOf l hl0 D ad H.size h_pk h_L k_pk (h_L_2) cap x4_h_pk cn x4_3 (by have y0 := f_nle c_2; have z0 := hy0; have z1 := hy1; have z2 := hy2; have z3 := hy3; have z4 := hy4; have z5 := hz_1; have z6 := hv_1_0; have z7 := hv_1_1; have z8 := hv_1_2; omega) (by have y0 := f_nle c_2; have z0 := hy0; have z1 := hy1; have z2 := hy2; have z3 := hy3; have z4 := hy4; have z5 := hz_1; have z6 := hv_1_0; have z7 := hv_1_1; have z8 := hv_1_2; omega) (by have y0 := f_nle c_2; have z0 := hy0; have z1 := hy1; have z2 := hy2; have z3 := hy3; have z4 := hy4; have z5 := hz_1; have z6 := hv_1_0; have z7 := hv_1_1; have z8 := hv_1_2; omega) (by have y0 := f_nle c_2; have z0 := hy0; have z1 := hy1; have z2 := hy2; have z3 := hy3; have z4 := hy4; have z5 := hz_1; have z6 := hv_1_0; have z7 := hv_1_1; have z8 := hv_1_2; omega) (by have y0 := f_nle c_2; have z0 := hy0; have z1 := hy1; have z2 := hy2; have z3 := hy3; have z4 := hy4; have z5 := hz_1; have z6 := hv_1_0; have z7 := hv_1_1; have z8 := hv_1_2; omega))
      rw [hy9] at hcon
      refine kr_ (va_runV (As := [.int x4_3]) (rest := []) ⟨hx, hb, hml, hown, hts⟩ hcon (cwV 1 hts gX5_removeOf_X5_receiverOf rfl rfl rfl (by decide +kernel) ⟨Nat.le_of_ble_eq_true rfl, Nat.le_of_ble_eq_true rfl⟩) ⟨PR_.blind, va_recv hK hP (ci := 8) (q0 := 1) rfl rfl, PR_.pre hF hK (hP.sub [0, 1] rfl) hS hA [0] rfl⟩ rfl rfl hl.1 rfl (lv_room (Nat.le_of_ble_eq_true rfl)) dX5_removeOf_23 ⟨(Nat.le_of_ble_eq_true rfl), (Nat.le_of_ble_eq_true rfl)⟩) hP hS hA (fun H locs hP hS => ?_)
      subst hy9
      refine W.eq (g2 := F0 m 26 ls [.int (F_X5_receiverOf x4_h_pk cn x4_3)]) rfl ?_
      refine lv_iload_n hx hb dX5_removeOf_26 rfl (lv_at hl 3 rfl) ?_
      refine lv_icmp_eq (tgt := 45) hx hb dX5_removeOf_27 (by decide) (fun c_6 => ?_) (fun c_6 => ?_)
      · rw [if_pos c_6] at hM
        refine lv_iinc (v := (x4_3 + 1)) (lv' := [(3, .int (x4_3 + 1)), (2, .int x4_2), (0, .ref h_L), (1, .int a1)]) hx hb dX5_removeOf_45 hl (k := 0) rfl rfl (by decide) rfl (fun ls hl => ?_)
        refine lv_goto (tgt := 4) hx hb dX5_removeOf_48 (by decide) ?_
        exact ih_1 (x4_2, (x4_3 + 1), x4_h_pk) _ _ _ _ _ ⟨lp_up hk_1 c_2, lp_up0 hz_1 c_2, (show 0 ≤ (x4_2 : Int32).toInt from (by have y0 := f_nle c_2; have y2 := f_eq c_6; have z0 := hy0; have z1 := hy1; have z2 := hy2; have z3 := hy3; have z4 := hy4; have z5 := hz_1; have z6 := hv_1_0; have z7 := hv_1_1; have z8 := hv_1_2; have b39 := Int32.toInt_lt (x4_2); have d39 := Int32.le_toInt (x4_2); omega)), (show (x4_2 : Int32).toInt ≤ ((x4_3 + 1) : Int32).toInt from (by have y0 := f_nle c_2; have y2 := f_eq c_6; have z0 := hy0; have z1 := hy1; have z2 := hy2; have z3 := hy3; have z4 := hy4; have z5 := hz_1; have z6 := hv_1_0; have z7 := hv_1_1; have z8 := hv_1_2; have b40 := Int32.toInt_lt (x4_2); have d40 := Int32.le_toInt (x4_2); have b42 := Int32.toInt_lt (x4_3); have d42 := Int32.le_toInt (x4_3); have l43 : (1 : Int32).toInt = 1 := (by decide +kernel); have q41 := addI (a := x4_3) (b := 1) (by omega) (by omega); omega)), (show ((x4_3 + 1) : Int32).toInt ≤ cn.toInt from (by have y0 := f_nle c_2; have y2 := f_eq c_6; have z0 := hy0; have z1 := hy1; have z2 := hy2; have z3 := hy3; have z4 := hy4; have z5 := hz_1; have z6 := hv_1_0; have z7 := hv_1_1; have z8 := hv_1_2; have b45 := Int32.toInt_lt (x4_3); have d45 := Int32.le_toInt (x4_3); have l46 : (1 : Int32).toInt = 1 := (by decide +kernel); have q44 := addI (a := x4_3) (b := 1) (by omega) (by omega); omega)), hP, hD, hS, lv_sub hl [0, 1, 2, 3] rfl, hM, rfl, rfl⟩
      · rw [if_neg c_6] at hM
        refine lv_aload_n hx hb dX5_removeOf_30 rfl (lv_at hl 2 rfl) ?_
        refine va_get (D := D) (ci := 8) (v := .ref h_pk) (own := RX5) (C := RX5) (T := TX5) (N := 3) hx hb hts hi_X5 hown hK hP 1 rfl rfl 0 (by decide) (hts (.fieldLink RX5 11 "CanalMaps$Letters" "packed" "[I") (List.mem_of_getElem? (i := 2) (by decide +kernel))) (fun _ h9 => h9) rfl dX5_removeOf_31 ?_
        refine lv_iload_n hx hb dX5_removeOf_34 rfl (lv_at hl 1 rfl) ?_
        refine lv_aload_n hx hb dX5_removeOf_35 rfl (lv_at hl 2 rfl) ?_
        refine va_get (D := D) (ci := 8) (v := .ref h_pk) (own := RX5) (C := RX5) (T := TX5) (N := 3) hx hb hts hi_X5 hown hK hP 1 rfl rfl 0 (by decide) (hts (.fieldLink RX5 11 "CanalMaps$Letters" "packed" "[I") (List.mem_of_getElem? (i := 2) (by decide +kernel))) (fun _ h9 => h9) rfl dX5_removeOf_36 ?_
        refine lv_iload_n hx hb dX5_removeOf_39 rfl (lv_at hl 0 rfl) ?_
        refine va_iald hx hb hK hP 0 0 rfl rfl (vinI (by have y0 := f_nle c_2; have z0 := hy0; have z1 := hy1; have z2 := hy2; have z3 := hy3; have z4 := hy4; have z5 := hz_1; have z6 := hv_1_0; have z7 := hv_1_1; have z8 := hv_1_2; have b47 := Int32.toInt_lt (x4_3); have d47 := Int32.le_toInt (x4_3); omega) (by have y0 := f_nle c_2; have z0 := hy0; have z1 := hy1; have z2 := hy2; have z3 := hy3; have z4 := hy4; have z5 := hz_1; have z6 := hv_1_0; have z7 := hv_1_1; have z8 := hv_1_2; have b47 := Int32.toInt_lt (x4_3); have d47 := Int32.le_toInt (x4_3); omega)) dX5_removeOf_40 ?_
        refine kt_ (v := (x4_h_pk (ix x4_3))) rfl ?_
        refine ka_iast (g := (upd x4_h_pk (ix x4_2) (x4_h_pk (ix x4_3)))) hx hb hK hP hD hS 0 0 rfl rfl (vinI (by have y0 := f_nle c_2; have z0 := hy0; have z1 := hy1; have z2 := hy2; have z3 := hy3; have z4 := hy4; have z5 := hz_1; have z6 := hv_1_0; have z7 := hv_1_1; have z8 := hv_1_2; have b48 := Int32.toInt_lt (x4_2); have d48 := Int32.le_toInt (x4_2); omega) (by have y0 := f_nle c_2; have z0 := hy0; have z1 := hy1; have z2 := hy2; have z3 := hy3; have z4 := hy4; have z5 := hz_1; have z6 := hv_1_0; have z7 := hv_1_1; have z8 := hv_1_2; have b48 := Int32.toInt_lt (x4_2); have d48 := Int32.le_toInt (x4_2); omega)) rfl dX5_removeOf_41 (fun H locs hP hD hS => ?_)
        have hP : va_P D vwCl [(h_pk, .inl (k_pk, cap, .inl (upd x4_h_pk (ix x4_2) (x4_h_pk (ix x4_3))))), (h_L, .inr (8, [.ref h_pk, .int cn, h_L_2]))] H := hP
        have hD : va_D A [(h_pk, .inl (k_pk, cap, .inl (upd x4_h_pk (ix x4_2) (x4_h_pk (ix x4_3))))), (h_L, .inr (8, [.ref h_pk, .int cn, h_L_2]))] := hD
        refine lv_iinc (v := (x4_2 + 1)) (lv' := [(2, .int (x4_2 + 1)), (3, .int x4_3), (0, .ref h_L), (1, .int a1)]) hx hb dX5_removeOf_42 hl (k := 1) rfl rfl (by decide) rfl (fun ls hl => ?_)
        refine lv_iinc (v := (x4_3 + 1)) (lv' := [(3, .int (x4_3 + 1)), (2, .int (x4_2 + 1)), (0, .ref h_L), (1, .int a1)]) hx hb dX5_removeOf_45 hl (k := 1) rfl rfl (by decide) rfl (fun ls hl => ?_)
        refine lv_goto (tgt := 4) hx hb dX5_removeOf_48 (by decide) ?_
        exact ih_1 ((x4_2 + 1), (x4_3 + 1), (upd x4_h_pk (ix x4_2) (x4_h_pk (ix x4_3)))) _ _ _ _ _ ⟨lp_up hk_1 c_2, lp_up0 hz_1 c_2, (show 0 ≤ ((x4_2 + 1) : Int32).toInt from (by have y0 := f_nle c_2; have z0 := hy0; have z1 := hy1; have z2 := hy2; have z3 := hy3; have z4 := hy4; have z5 := hz_1; have z6 := hv_1_0; have z7 := hv_1_1; have z8 := hv_1_2; have b50 := Int32.toInt_lt (x4_2); have d50 := Int32.le_toInt (x4_2); have l51 : (1 : Int32).toInt = 1 := (by decide +kernel); have q49 := addI (a := x4_2) (b := 1) (by omega) (by omega); omega)), (show ((x4_2 + 1) : Int32).toInt ≤ ((x4_3 + 1) : Int32).toInt from (by have y0 := f_nle c_2; have z0 := hy0; have z1 := hy1; have z2 := hy2; have z3 := hy3; have z4 := hy4; have z5 := hz_1; have z6 := hv_1_0; have z7 := hv_1_1; have z8 := hv_1_2; have b53 := Int32.toInt_lt (x4_2); have d53 := Int32.le_toInt (x4_2); have l54 : (1 : Int32).toInt = 1 := (by decide +kernel); have q52 := addI (a := x4_2) (b := 1) (by omega) (by omega); have b56 := Int32.toInt_lt (x4_3); have d56 := Int32.le_toInt (x4_3); have l57 : (1 : Int32).toInt = 1 := (by decide +kernel); have q55 := addI (a := x4_3) (b := 1) (by omega) (by omega); omega)), (show ((x4_3 + 1) : Int32).toInt ≤ cn.toInt from (by have y0 := f_nle c_2; have z0 := hy0; have z1 := hy1; have z2 := hy2; have z3 := hy3; have z4 := hy4; have z5 := hz_1; have z6 := hv_1_0; have z7 := hv_1_1; have z8 := hv_1_2; have b59 := Int32.toInt_lt (x4_3); have d59 := Int32.le_toInt (x4_3); have l60 : (1 : Int32).toInt = 1 := (by decide +kernel); have q58 := addI (a := x4_3) (b := 1) (by omega) (by omega); omega)), hP, hD, hS, lv_sub hl [0, 1, 2, 3] rfl, hM, rfl, rfl⟩
