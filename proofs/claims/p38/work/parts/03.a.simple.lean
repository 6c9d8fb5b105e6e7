def F_X8_has (n : Int32) (a1 : Int32) : Int32 := (if a1 < 0 then 0 else (if n ≤ a1 then 0 else 1))
theorem R_X8_has {n a : Int32} (h : ¬ F_X8_has n a = 0) : 0 ≤ a.toInt ∧ a.toInt < n.toInt := by
  have e0 : (0 : Int32).toInt = 0 := by decide +kernel
  have e6 : (6 : Int32).toInt = 6 := by decide +kernel
  unfold F_X8_has at h
  by_cases c1 : a < 0
  · rw [if_pos c1] at h; exact absurd rfl h
  rw [if_neg c1] at h
  by_cases c2 : n ≤ a
  · rw [if_pos c2] at h; exact absurd rfl h
  have y1 := f_nlt c1
  have y2 := f_nle c2
  omega
set_option maxHeartbeats 4000000 in
set_option maxRecDepth 100000 in
theorem c_X8_has (l : Launch) (hl0 : l.stackTraces = false) (D : va_G) (ad : Nat → Nat) (sz : Nat) (h_S : Nat) (h_S_0 : Value) (h_S_1 : Value) (h_S_2 : Value) (h_S_3 : Value) (h_S_4 : Value) (h_S_6 : Value) (h_S_7 : Value) (h_S_8 : Value) (h_S_9 : Value) (n : Int32) (a1 : Int32) : Met l yX8_has wsX8_has ({ frames := 0, cells := 0, slots := 0, locals := 0 }) (PR_ D ad [(h_S, .inr (11, [h_S_0, h_S_1, h_S_2, h_S_3, h_S_4, .int n, h_S_6, h_S_7, h_S_8, h_S_9]))] [] sz [.ref h_S, .int a1]) (QR_ (.int (F_X8_has n a1)) (va_A [] sz)) 0 0 (va_A [] sz) := by
  refine Met.ofW (cc := cX8_has) (maxL := 2) (ret := (some .boolean)) (by decide) rfl ?_
  intro p e s m args below meth c s₁ B hml hv
  obtain ⟨rfl, hsz, hP, hK, hF⟩ := hv
  have hx := B.exec
  have hb := B.bytes
  have hr := B.returns
  have hts := atoms_spec (ws := wsX8_has) B.pre
  have hown : s.vm.findClass RX8 = some m.cls := findClass_of_methodNamed B.named
  have hlocks := B.notSynchronized
  subst hsz
  generalize hAe : va_A [] s.heap.size = A at hF ⊢
  have hA : ∀ q : Nat, s.heap.size ≤ q → A q := fun q h => by rw [← hAe]; exact Or.inr h
  obtain ⟨H, hHe⟩ : ∃ H : Heap, H = s.heap := ⟨_, rfl⟩
  have hS : va_S A s.heap H [] := by rw [hHe]; exact va_S.rf
  have hP : va_P D vwCl [(h_S, .inr (11, [h_S_0, h_S_1, h_S_2, h_S_3, h_S_4, .int n, h_S_6, h_S_7, h_S_8, h_S_9]))] H := by rw [hHe]; exact hP
  rw [← hHe]
  have hi_X8 : ∀ w ∈ wsX80, w ∈ wsX8_has := by decide +kernel
  have hl := lv_entry [.ref h_S, .int a1] (n := 2) (Nat.le_of_ble_eq_true rfl)
  rw [lg_entry_eq]
  generalize (lg_sl [.ref h_S, .int a1] ++ List.replicate (2 - (lg_sl [.ref h_S, .int a1]).length) Slot.unset).toArray = ls at hl ⊢
  have hl : lv_has ls 2 [(0, .ref h_S), (1, .int a1)] := hl
  have hM : F_X8_has n a1 = (if a1 < 0 then 0 else (if n ≤ a1 then 0 else 1)) := rfl
  refine lv_iload_n hx hb dX8_has_0 rfl (lv_at hl 1 rfl) ?_
  refine lv_if_lt (tgt := 16) hx hb dX8_has_1 (by decide) (fun c_1 => ?_) (fun c_1 => ?_)
  · rw [if_pos c_1] at hM
    refine lv_iconst (v := 0) hx hb dX8_has_16 (by decide) ?_
    refine W.widen (k := 0) (n := 0) (Nat.le_of_ble_eq_true rfl) (Nat.le_of_ble_eq_true rfl) ?_
    exact W.zret (v := 0) hx hb hr rfl (QR_.mk hS (by rw [hM])) hS.2.2 dX8_has_17
  · rw [if_neg c_1] at hM
    refine lv_iload_n hx hb dX8_has_4 rfl (lv_at hl 1 rfl) ?_
    refine lv_aload_n hx hb dX8_has_5 rfl (lv_at hl 0 rfl) ?_
    refine va_get (D := D) (ci := 11) (v := .int n) (own := RX8) (C := RX8) (T := TX8) (N := 10) hx hb hts hi_X8 hown hK hP 0 rfl rfl 5 (by decide) (hts (.fieldLink RX8 28 "CanalMaps$Survey" "surveyors" "I") (List.mem_of_getElem? (i := 1) (by decide +kernel))) (fun _ h9 => h9) rfl dX8_has_6 ?_
    refine lv_icmp_ge (tgt := 16) hx hb dX8_has_9 (by decide) (fun c_2 => ?_) (fun c_2 => ?_)
    · rw [if_pos c_2] at hM
      refine lv_iconst (v := 0) hx hb dX8_has_16 (by decide) ?_
      refine W.widen (k := 0) (n := 0) (Nat.le_of_ble_eq_true rfl) (Nat.le_of_ble_eq_true rfl) ?_
      exact W.zret (v := 0) hx hb hr rfl (QR_.mk hS (by rw [hM])) hS.2.2 dX8_has_17
    · rw [if_neg c_2] at hM
      refine lv_iconst (v := 1) hx hb dX8_has_12 (by decide) ?_
      refine lv_goto (tgt := 17) hx hb dX8_has_13 (by decide) ?_
      refine W.widen (k := 0) (n := 0) (Nat.le_of_ble_eq_true rfl) (Nat.le_of_ble_eq_true rfl) ?_
      exact W.zret (v := 1) hx hb hr rfl (QR_.mk hS (by rw [hM])) hS.2.2 dX8_has_17
def F_X8_pair (a1 : Int32) (a2 : Int32) : Int32 := (if a1 < 0 then 0 else (if 6 ≤ a1 then 0 else (if a2 < 0 then 0 else (if 6 ≤ a2 then 0 else ((a1 * 6) + a2)))))
theorem R_X8_pair (a b : Int32) : 0 ≤ (F_X8_pair a b).toInt ∧ (F_X8_pair a b).toInt < 36 := by
  have e0 : (0 : Int32).toInt = 0 := by decide +kernel
  have e6 : (6 : Int32).toInt = 6 := by decide +kernel
  unfold F_X8_pair
  by_cases c1 : a < 0
  · rw [if_pos c1]; omega
  rw [if_neg c1]
  by_cases c2 : 6 ≤ a
  · rw [if_pos c2]; omega
  rw [if_neg c2]
  by_cases c3 : b < 0
  · rw [if_pos c3]; omega
  rw [if_neg c3]
  by_cases c4 : 6 ≤ b
  · rw [if_pos c4]; omega
  rw [if_neg c4]
  have y1 := f_nlt c1
  have y2 := f_nle c2
  have y3 := f_nlt c3
  have y4 := f_nle c4
  rw [ix6 (by omega) (by omega) (by omega) (by omega)]
  omega
set_option maxHeartbeats 4000000 in
set_option maxRecDepth 100000 in
theorem c_X8_pair (l : Launch) (hl0 : l.stackTraces = false) (D : va_G) (ad : Nat → Nat) (sz : Nat) (a1 : Int32) (a2 : Int32) : Met l yX8_pair wsX8_pair ({ frames := 0, cells := 0, slots := 0, locals := 0 }) (PR_ D ad [] [] sz [.int a1, .int a2]) (QR_ (.int (F_X8_pair a1 a2)) (va_A [] sz)) 0 0 (va_A [] sz) := by
  refine Met.ofW (cc := cX8_pair) (maxL := 3) (ret := (some .int)) (by decide) rfl ?_
  intro p e s m args below meth c s₁ B hml hv
  obtain ⟨rfl, hsz, hP, hK, hF⟩ := hv
  have hx := B.exec
  have hb := B.bytes
  have hr := B.returns
  have hts := atoms_spec (ws := wsX8_pair) B.pre
  have hown : s.vm.findClass RX8 = some m.cls := findClass_of_methodNamed B.named
  have hlocks := B.notSynchronized
  subst hsz
  generalize hAe : va_A [] s.heap.size = A at hF ⊢
  have hA : ∀ q : Nat, s.heap.size ≤ q → A q := fun q h => by rw [← hAe]; exact Or.inr h
  obtain ⟨H, hHe⟩ : ∃ H : Heap, H = s.heap := ⟨_, rfl⟩
  have hS : va_S A s.heap H [] := by rw [hHe]; exact va_S.rf
  have hP : va_P D vwCl [] H := by rw [hHe]; exact hP
  rw [← hHe]
  have hl := lv_entry [.int a1, .int a2] (n := 3) (Nat.le_of_ble_eq_true rfl)
  rw [lg_entry_eq]
  generalize (lg_sl [.int a1, .int a2] ++ List.replicate (3 - (lg_sl [.int a1, .int a2]).length) Slot.unset).toArray = ls at hl ⊢
  have hl : lv_has ls 3 [(0, .int a1), (1, .int a2)] := hl
  have hM : F_X8_pair a1 a2 = (if a1 < 0 then 0 else (if 6 ≤ a1 then 0 else (if a2 < 0 then 0 else (if 6 ≤ a2 then 0 else ((a1 * 6) + a2))))) := rfl
  refine lv_iload_n hx hb dX8_pair_0 rfl (lv_at hl 0 rfl) ?_
  refine lv_if_lt (tgt := 24) hx hb dX8_pair_1 (by decide) (fun c_1 => ?_) (fun c_1 => ?_)
  · rw [if_pos c_1] at hM
    refine lv_iconst (v := 0) hx hb dX8_pair_24 (by decide) ?_
    refine lv_istore_n (lv' := [(2, .int 0), (0, .int a1), (1, .int a2)]) hx hb dX8_pair_25 rfl hl (by decide) rfl (fun ls hl => ?_)
    refine lv_iload_n hx hb dX8_pair_26 rfl (lv_at hl 0 rfl) ?_
    refine lv_if_eq (tgt := 39) hx hb dX8_pair_27 (by decide) (fun _ => ?_) (fun c9 => absurd (by decide +kernel) c9)
    refine lv_iconst (v := 0) hx hb dX8_pair_39 (by decide) ?_
    refine W.widen (k := 0) (n := 0) (Nat.le_of_ble_eq_true rfl) (Nat.le_of_ble_eq_true rfl) ?_
    exact W.iret (v := 0) hx hb hr (QR_.mk hS (by rw [hM])) hS.2.2 dX8_pair_40
  · rw [if_neg c_1] at hM
    refine lv_iload_n hx hb dX8_pair_4 rfl (lv_at hl 0 rfl) ?_
    refine lv_bipush (v := 6) hx hb dX8_pair_5 (by decide) ?_
    refine lv_icmp_ge (tgt := 24) hx hb dX8_pair_7 (by decide) (fun c_2 => ?_) (fun c_2 => ?_)
    · rw [if_pos c_2] at hM
      refine lv_iconst (v := 0) hx hb dX8_pair_24 (by decide) ?_
      refine lv_istore_n (lv' := [(2, .int 0), (0, .int a1), (1, .int a2)]) hx hb dX8_pair_25 rfl hl (by decide) rfl (fun ls hl => ?_)
      refine lv_iload_n hx hb dX8_pair_26 rfl (lv_at hl 0 rfl) ?_
      refine lv_if_eq (tgt := 39) hx hb dX8_pair_27 (by decide) (fun _ => ?_) (fun c9 => absurd (by decide +kernel) c9)
      refine lv_iconst (v := 0) hx hb dX8_pair_39 (by decide) ?_
      refine W.widen (k := 0) (n := 0) (Nat.le_of_ble_eq_true rfl) (Nat.le_of_ble_eq_true rfl) ?_
      exact W.iret (v := 0) hx hb hr (QR_.mk hS (by rw [hM])) hS.2.2 dX8_pair_40
    · rw [if_neg c_2] at hM
      refine lv_iload_n hx hb dX8_pair_10 rfl (lv_at hl 1 rfl) ?_
      refine lv_if_lt (tgt := 24) hx hb dX8_pair_11 (by decide) (fun c_3 => ?_) (fun c_3 => ?_)
      · rw [if_pos c_3] at hM
        refine lv_iconst (v := 0) hx hb dX8_pair_24 (by decide) ?_
        refine lv_istore_n (lv' := [(2, .int 0), (0, .int a1), (1, .int a2)]) hx hb dX8_pair_25 rfl hl (by decide) rfl (fun ls hl => ?_)
        refine lv_iload_n hx hb dX8_pair_26 rfl (lv_at hl 0 rfl) ?_
        refine lv_if_eq (tgt := 39) hx hb dX8_pair_27 (by decide) (fun _ => ?_) (fun c9 => absurd (by decide +kernel) c9)
        refine lv_iconst (v := 0) hx hb dX8_pair_39 (by decide) ?_
        refine W.widen (k := 0) (n := 0) (Nat.le_of_ble_eq_true rfl) (Nat.le_of_ble_eq_true rfl) ?_
        exact W.iret (v := 0) hx hb hr (QR_.mk hS (by rw [hM])) hS.2.2 dX8_pair_40
      · rw [if_neg c_3] at hM
        refine lv_iload_n hx hb dX8_pair_14 rfl (lv_at hl 1 rfl) ?_
        refine lv_bipush (v := 6) hx hb dX8_pair_15 (by decide) ?_
        refine lv_icmp_ge (tgt := 24) hx hb dX8_pair_17 (by decide) (fun c_4 => ?_) (fun c_4 => ?_)
        · rw [if_pos c_4] at hM
          refine lv_iconst (v := 0) hx hb dX8_pair_24 (by decide) ?_
          refine lv_istore_n (lv' := [(2, .int 0), (0, .int a1), (1, .int a2)]) hx hb dX8_pair_25 rfl hl (by decide) rfl (fun ls hl => ?_)
          refine lv_iload_n hx hb dX8_pair_26 rfl (lv_at hl 0 rfl) ?_
          refine lv_if_eq (tgt := 39) hx hb dX8_pair_27 (by decide) (fun _ => ?_) (fun c9 => absurd (by decide +kernel) c9)
          refine lv_iconst (v := 0) hx hb dX8_pair_39 (by decide) ?_
          refine W.widen (k := 0) (n := 0) (Nat.le_of_ble_eq_true rfl) (Nat.le_of_ble_eq_true rfl) ?_
          exact W.iret (v := 0) hx hb hr (QR_.mk hS (by rw [hM])) hS.2.2 dX8_pair_40
        · rw [if_neg c_4] at hM
          refine lv_iconst (v := 1) hx hb dX8_pair_20 (by decide) ?_
          refine lv_goto (tgt := 25) hx hb dX8_pair_21 (by decide) ?_
          refine lv_istore_n (lv' := [(2, .int 1), (0, .int a1), (1, .int a2)]) hx hb dX8_pair_25 rfl hl (by decide) rfl (fun ls hl => ?_)
          refine lv_iload_n hx hb dX8_pair_26 rfl (lv_at hl 0 rfl) ?_
          refine lv_if_eq (tgt := 39) hx hb dX8_pair_27 (by decide) (fun c9 => absurd c9 (by decide +kernel)) (fun _ => ?_)
          refine lv_iload_n hx hb dX8_pair_30 rfl (lv_at hl 1 rfl) ?_
          refine lv_bipush (v := 6) hx hb dX8_pair_31 (by decide) ?_
          refine lv_imul hx hb dX8_pair_33 ?_
          refine lv_iload_n hx hb dX8_pair_34 rfl (lv_at hl 2 rfl) ?_
          refine lv_iadd hx hb dX8_pair_35 ?_
          refine lv_goto (tgt := 40) hx hb dX8_pair_36 (by decide) ?_
          refine W.widen (k := 0) (n := 0) (Nat.le_of_ble_eq_true rfl) (Nat.le_of_ble_eq_true rfl) ?_
          exact W.iret (v := ((a1 * 6) + a2)) hx hb hr (QR_.mk hS (by rw [hM])) hS.2.2 dX8_pair_40
def F_X8_districtOf (ds : Nat → Int32) (n : Int32) (a1 : Int32) : Int32 := (if (F_X8_has n a1) = 0 then (-1) else (ds (ix a1)))
set_option maxHeartbeats 4000000 in
set_option maxRecDepth 100000 in
theorem c_X8_districtOf (l : Launch) (hl0 : l.stackTraces = false) (D : va_G) (ad : Nat → Nat) (sz : Nat) (h_ds : Nat) (h_S : Nat) (k_ds : ClassId) (h_S_0 : Value) (h_S_2 : Value) (h_S_3 : Value) (h_S_4 : Value) (h_S_6 : Value) (h_S_7 : Value) (h_S_8 : Value) (h_S_9 : Value) (ds : Nat → Int32) (n : Int32) (a1 : Int32) (hy0 : n.toInt ≤ 6) : Met l yX8_districtOf wsX8_districtOf ({ frames := 1, cells := 0, slots := 0, locals := 23 }) (PR_ D ad [(h_ds, .inl (k_ds, 6, .inl ds)), (h_S, .inr (11, [h_S_0, .ref h_ds, h_S_2, h_S_3, h_S_4, .int n, h_S_6, h_S_7, h_S_8, h_S_9]))] [(k_ds, .int)] sz [.ref h_S, .int a1]) (QR_ (.int (F_X8_districtOf ds n a1)) (va_A [] sz)) 0 0 (va_A [] sz) := by
  refine Met.ofW (cc := cX8_districtOf) (maxL := 2) (ret := (some .int)) (by decide) rfl ?_
  intro p e s m args below meth c s₁ B hml hv
  obtain ⟨rfl, hsz, hP, hK, hF⟩ := hv
  have hx := B.exec
  have hb := B.bytes
  have hr := B.returns
  have hts := atoms_spec (ws := wsX8_districtOf) B.pre
  have hown : s.vm.findClass RX8 = some m.cls := findClass_of_methodNamed B.named
  have hlocks := B.notSynchronized
  subst hsz
  generalize hAe : va_A [] s.heap.size = A at hF ⊢
  have hA : ∀ q : Nat, s.heap.size ≤ q → A q := fun q h => by rw [← hAe]; exact Or.inr h
  obtain ⟨H, hHe⟩ : ∃ H : Heap, H = s.heap := ⟨_, rfl⟩
  have hS : va_S A s.heap H [] := by rw [hHe]; exact va_S.rf
  have hP : va_P D vwCl [(h_ds, .inl (k_ds, 6, .inl ds)), (h_S, .inr (11, [h_S_0, .ref h_ds, h_S_2, h_S_3, h_S_4, .int n, h_S_6, h_S_7, h_S_8, h_S_9]))] H := by rw [hHe]; exact hP
  rw [← hHe]
  have hi_X8 : ∀ w ∈ wsX80, w ∈ wsX8_districtOf := by decide +kernel
  have hl := lv_entry [.ref h_S, .int a1] (n := 2) (Nat.le_of_ble_eq_true rfl)
  rw [lg_entry_eq]
  generalize (lg_sl [.ref h_S, .int a1] ++ List.replicate (2 - (lg_sl [.ref h_S, .int a1]).length) Slot.unset).toArray = ls at hl ⊢
  have hl : lv_has ls 2 [(0, .ref h_S), (1, .int a1)] := hl
  have hM : F_X8_districtOf ds n a1 = (if (F_X8_has n a1) = 0 then (-1) else (ds (ix a1))) := rfl
  refine lv_aload_n hx hb dX8_districtOf_0 rfl (lv_at hl 0 rfl) ?_
  refine lv_iload_n hx hb dX8_districtOf_1 rfl (lv_at hl 1 rfl) ?_
  obtain ⟨y9, hy9⟩ : ∃ y9, (F_X8_has n a1) = y9 := ⟨_, rfl⟩
  have hcon := (c_X8_has l hl0 D ad H.size h_S (h_S_0) (.ref h_ds) (h_S_2) (h_S_3) (h_S_4) (h_S_6) (h_S_7) (h_S_8) (h_S_9) n a1)
  rw [hy9] at hcon
  refine kr_ (va_runV (As := [.int a1]) (rest := []) ⟨hx, hb, hml, hown, hts⟩ hcon (cwV 1 hts gX8_districtOf_X8_has rfl rfl rfl (by decide +kernel) ⟨Nat.le_of_ble_eq_true rfl, Nat.le_of_ble_eq_true rfl⟩) ⟨PR_.blind, va_recv hK hP (ci := 11) (q0 := 1) rfl rfl, PR_.pre hF hK (hP.sub [1] rfl) hS hA [] rfl⟩ rfl rfl hl.1 rfl (lv_room (Nat.le_of_ble_eq_true rfl)) dX8_districtOf_2 ⟨(Nat.le_of_ble_eq_true rfl), (Nat.le_of_ble_eq_true rfl)⟩) hP hS hA (fun H locs hP hS => ?_)
  subst hy9
  refine W.eq (g2 := F0 m 5 ls [.int (F_X8_has n a1)]) rfl ?_
  refine lv_if_eq (tgt := 17) hx hb dX8_districtOf_5 (by decide) (fun c_2 => ?_) (fun c_2 => ?_)
  · rw [if_pos c_2] at hM
    refine lv_iconst (v := (-1)) hx hb dX8_districtOf_17 (by decide) ?_
    refine W.widen (k := 0) (n := 0) (Nat.le_of_ble_eq_true rfl) (Nat.le_of_ble_eq_true rfl) ?_
    exact W.iret (v := (-1)) hx hb hr (QR_.mk hS (by rw [hM])) hS.2.2 dX8_districtOf_18
  · rw [if_neg c_2] at hM
    refine lv_aload_n hx hb dX8_districtOf_8 rfl (lv_at hl 0 rfl) ?_
    refine va_get (D := D) (ci := 11) (v := .ref h_ds) (own := RX8) (C := RX8) (T := TX8) (N := 10) hx hb hts hi_X8 hown hK hP 1 rfl rfl 1 (by decide) (hts (.fieldLink RX8 9 "CanalMaps$Survey" "districts" "[I") (List.mem_of_getElem? (i := 1) (by decide +kernel))) (fun _ h9 => h9) rfl dX8_districtOf_9 ?_
    refine lv_iload_n hx hb dX8_districtOf_12 rfl (lv_at hl 1 rfl) ?_
    refine va_iald hx hb hK hP 0 0 rfl rfl (vinI (by have y0 := R_X8_has c_2; have z0 := hy0; have b4 := Int32.toInt_lt (a1); have d4 := Int32.le_toInt (a1); omega) (by have y0 := R_X8_has c_2; have z0 := hy0; have b4 := Int32.toInt_lt (a1); have d4 := Int32.le_toInt (a1); omega)) dX8_districtOf_13 ?_
    refine kt_ (v := (ds (ix a1))) rfl ?_
    refine lv_goto (tgt := 18) hx hb dX8_districtOf_14 (by decide) ?_
    refine W.widen (k := 0) (n := 0) (Nat.le_of_ble_eq_true rfl) (Nat.le_of_ble_eq_true rfl) ?_
    exact W.iret (v := (ds (ix a1))) hx hb hr (QR_.mk hS (by rw [hM])) hS.2.2 dX8_districtOf_18
def F_X8_costBetween (cs : Nat → Int32) (a1 : Int32) (a2 : Int32) : Int32 := (cs (ix (F_X8_pair a1 a2)))
set_option maxHeartbeats 4000000 in
set_option maxRecDepth 100000 in
theorem c_X8_costBetween (l : Launch) (hl0 : l.stackTraces = false) (D : va_G) (ad : Nat → Nat) (sz : Nat) (h_cs : Nat) (h_S : Nat) (k_cs : ClassId) (h_S_0 : Value) (h_S_1 : Value) (h_S_3 : Value) (h_S_4 : Value) (h_S_5 : Value) (h_S_6 : Value) (h_S_7 : Value) (h_S_8 : Value) (h_S_9 : Value) (cs : Nat → Int32) (a1 : Int32) (a2 : Int32) : Met l yX8_costBetween wsX8_costBetween ({ frames := 1, cells := 0, slots := 0, locals := 24 }) (PR_ D ad [(h_cs, .inl (k_cs, 36, .inl cs)), (h_S, .inr (11, [h_S_0, h_S_1, .ref h_cs, h_S_3, h_S_4, h_S_5, h_S_6, h_S_7, h_S_8, h_S_9]))] [(k_cs, .int)] sz [.ref h_S, .int a1, .int a2]) (QR_ (.int (F_X8_costBetween cs a1 a2)) (va_A [] sz)) 0 0 (va_A [] sz) := by
  refine Met.ofW (cc := cX8_costBetween) (maxL := 3) (ret := (some .int)) (by decide) rfl ?_
  intro p e s m args below meth c s₁ B hml hv
  obtain ⟨rfl, hsz, hP, hK, hF⟩ := hv
  have hx := B.exec
  have hb := B.bytes
  have hr := B.returns
  have hts := atoms_spec (ws := wsX8_costBetween) B.pre
  have hown : s.vm.findClass RX8 = some m.cls := findClass_of_methodNamed B.named
  have hlocks := B.notSynchronized
  subst hsz
  generalize hAe : va_A [] s.heap.size = A at hF ⊢
  have hA : ∀ q : Nat, s.heap.size ≤ q → A q := fun q h => by rw [← hAe]; exact Or.inr h
  obtain ⟨H, hHe⟩ : ∃ H : Heap, H = s.heap := ⟨_, rfl⟩
  have hS : va_S A s.heap H [] := by rw [hHe]; exact va_S.rf
  have hP : va_P D vwCl [(h_cs, .inl (k_cs, 36, .inl cs)), (h_S, .inr (11, [h_S_0, h_S_1, .ref h_cs, h_S_3, h_S_4, h_S_5, h_S_6, h_S_7, h_S_8, h_S_9]))] H := by rw [hHe]; exact hP
  rw [← hHe]
  have hi_X8 : ∀ w ∈ wsX80, w ∈ wsX8_costBetween := by decide +kernel
  have hl := lv_entry [.ref h_S, .int a1, .int a2] (n := 3) (Nat.le_of_ble_eq_true rfl)
  rw [lg_entry_eq]
  generalize (lg_sl [.ref h_S, .int a1, .int a2] ++ List.replicate (3 - (lg_sl [.ref h_S, .int a1, .int a2]).length) Slot.unset).toArray = ls at hl ⊢
  have hl : lv_has ls 3 [(0, .ref h_S), (1, .int a1), (2, .int a2)] := hl
  have hM : F_X8_costBetween cs a1 a2 = (cs (ix (F_X8_pair a1 a2))) := rfl
  refine lv_aload_n hx hb dX8_costBetween_0 rfl (lv_at hl 0 rfl) ?_
  refine va_get (D := D) (ci := 11) (v := .ref h_cs) (own := RX8) (C := RX8) (T := TX8) (N := 10) hx hb hts hi_X8 hown hK hP 1 rfl rfl 2 (by decide) (hts (.fieldLink RX8 15 "CanalMaps$Survey" "costs" "[I") (List.mem_of_getElem? (i := 1) (by decide +kernel))) (fun _ h9 => h9) rfl dX8_costBetween_1 ?_
  refine lv_iload_n hx hb dX8_costBetween_4 rfl (lv_at hl 1 rfl) ?_
  refine lv_iload_n hx hb dX8_costBetween_5 rfl (lv_at hl 2 rfl) ?_
  obtain ⟨y9, hy9⟩ : ∃ y9, (F_X8_pair a1 a2) = y9 := ⟨_, rfl⟩
  have hcon := (c_X8_pair l hl0 D ad H.size a1 a2)
  rw [hy9] at hcon
  refine kr_ (va_runS (As := [.int a1, .int a2]) (rest := [.ref h_cs]) ⟨hx, hb, hml, hown, hts⟩ hcon (va_cwS 2 hts gX8_costBetween_X8_pair rfl rfl rfl (by decide +kernel) ⟨Nat.le_of_ble_eq_true rfl, Nat.le_of_ble_eq_true rfl⟩) ⟨PR_.blind, PR_.pre hF hK (hP.sub [] rfl) hS hA [] rfl⟩ rfl rfl hl.1 rfl (lv_room (Nat.le_of_ble_eq_true rfl)) dX8_costBetween_6 ⟨(Nat.le_of_ble_eq_true rfl), (Nat.le_of_ble_eq_true rfl)⟩) hP hS hA (fun H locs hP hS => ?_)
  subst hy9
  refine W.eq (g2 := F0 m 9 ls [.int (F_X8_pair a1 a2), .ref h_cs]) rfl ?_
  refine va_iald hx hb hK hP 0 0 rfl rfl (vinI (by have rp1 := R_X8_pair a1 a2; have b4 := Int32.toInt_lt (F_X8_pair a1 a2); have d4 := Int32.le_toInt (F_X8_pair a1 a2); omega) (by have rp1 := R_X8_pair a1 a2; have b4 := Int32.toInt_lt (F_X8_pair a1 a2); have d4 := Int32.le_toInt (F_X8_pair a1 a2); omega)) dX8_costBetween_9 ?_
  refine kt_ (v := (cs (ix (F_X8_pair a1 a2)))) rfl ?_
  refine W.widen (k := 0) (n := 0) (Nat.le_of_ble_eq_true rfl) (Nat.le_of_ble_eq_true rfl) ?_
  exact W.iret (v := (cs (ix (F_X8_pair a1 a2)))) hx hb hr (QR_.mk hS (by rw [hM])) hS.2.2 dX8_costBetween_10
def F_X8_areNeighbours (ds : Nat → Int32) (cs : Nat → Int32) (n : Int32) (a1 : Int32) (a2 : Int32) : Int32 := (if (F_X8_has n a1) = 0 then 0 else (if (F_X8_has n a2) = 0 then 0 else (if (cs (ix (F_X8_pair a1 a2))) ≤ 0 then 0 else (if (ds (ix a1)) = (ds (ix a2)) then 1 else 0))))
set_option maxHeartbeats 4000000 in
set_option maxRecDepth 100000 in
theorem c_X8_areNeighbours (l : Launch) (hl0 : l.stackTraces = false) (D : va_G) (ad : Nat → Nat) (sz : Nat) (h_ds : Nat) (h_cs : Nat) (h_S : Nat) (k_ds : ClassId) (k_cs : ClassId) (h_S_0 : Value) (h_S_3 : Value) (h_S_4 : Value) (h_S_6 : Value) (h_S_7 : Value) (h_S_8 : Value) (h_S_9 : Value) (ds : Nat → Int32) (cs : Nat → Int32) (n : Int32) (a1 : Int32) (a2 : Int32) (hy0 : n.toInt ≤ 6) : Met l yX8_areNeighbours wsX8_areNeighbours ({ frames := 1, cells := 0, slots := 0, locals := 24 }) (PR_ D ad [(h_ds, .inl (k_ds, 6, .inl ds)), (h_cs, .inl (k_cs, 36, .inl cs)), (h_S, .inr (11, [h_S_0, .ref h_ds, .ref h_cs, h_S_3, h_S_4, .int n, h_S_6, h_S_7, h_S_8, h_S_9]))] [(k_ds, .int), (k_cs, .int)] sz [.ref h_S, .int a1, .int a2]) (QR_ (.int (F_X8_areNeighbours ds cs n a1 a2)) (va_A [] sz)) 0 0 (va_A [] sz) := by
  refine Met.ofW (cc := cX8_areNeighbours) (maxL := 3) (ret := (some .boolean)) (by decide) rfl ?_
  intro p e s m args below meth c s₁ B hml hv
  obtain ⟨rfl, hsz, hP, hK, hF⟩ := hv
  have hx := B.exec
  have hb := B.bytes
  have hr := B.returns
  have hts := atoms_spec (ws := wsX8_areNeighbours) B.pre
  have hown : s.vm.findClass RX8 = some m.cls := findClass_of_methodNamed B.named
  have hlocks := B.notSynchronized
  subst hsz
  generalize hAe : va_A [] s.heap.size = A at hF ⊢
  have hA : ∀ q : Nat, s.heap.size ≤ q → A q := fun q h => by rw [← hAe]; exact Or.inr h
  obtain ⟨H, hHe⟩ : ∃ H : Heap, H = s.heap := ⟨_, rfl⟩
  have hS : va_S A s.heap H [] := by rw [hHe]; exact va_S.rf
  have hP : va_P D vwCl [(h_ds, .inl (k_ds, 6, .inl ds)), (h_cs, .inl (k_cs, 36, .inl cs)), (h_S, .inr (11, [h_S_0, .ref h_ds, .ref h_cs, h_S_3, h_S_4, .int n, h_S_6, h_S_7, h_S_8, h_S_9]))] H := by rw [hHe]; exact hP
  rw [← hHe]
  have hi_X8 : ∀ w ∈ wsX80, w ∈ wsX8_areNeighbours := by decide +kernel
  have hl := lv_entry [.ref h_S, .int a1, .int a2] (n := 3) (Nat.le_of_ble_eq_true rfl)
  rw [lg_entry_eq]
  generalize (lg_sl [.ref h_S, .int a1, .int a2] ++ List.replicate (3 - (lg_sl [.ref h_S, .int a1, .int a2]).length) Slot.unset).toArray = ls at hl ⊢
  have hl : lv_has ls 3 [(0, .ref h_S), (1, .int a1), (2, .int a2)] := hl
  have hM : F_X8_areNeighbours ds cs n a1 a2 = (if (F_X8_has n a1) = 0 then 0 else (if (F_X8_has n a2) = 0 then 0 else (if (cs (ix (F_X8_pair a1 a2))) ≤ 0 then 0 else (if (ds (ix a1)) = (ds (ix a2)) then 1 else 0)))) := rfl
  refine lv_aload_n hx hb dX8_areNeighbours_0 rfl (lv_at hl 0 rfl) ?_
  refine lv_iload_n hx hb dX8_areNeighbours_1 rfl (lv_at hl 1 rfl) ?_
  obtain ⟨y9, hy9⟩ : ∃ y9, (F_X8_has n a1) = y9 := ⟨_, rfl⟩
  have hcon := (c_X8_has l hl0 D ad H.size h_S (h_S_0) (.ref h_ds) (.ref h_cs) (h_S_3) (h_S_4) (h_S_6) (h_S_7) (h_S_8) (h_S_9) n a1)
  rw [hy9] at hcon
  refine kr_ (va_runV (As := [.int a1]) (rest := []) ⟨hx, hb, hml, hown, hts⟩ hcon (cwV 1 hts gX8_areNeighbours_X8_has rfl rfl rfl (by decide +kernel) ⟨Nat.le_of_ble_eq_true rfl, Nat.le_of_ble_eq_true rfl⟩) ⟨PR_.blind, va_recv hK hP (ci := 11) (q0 := 2) rfl rfl, PR_.pre hF hK (hP.sub [2] rfl) hS hA [] rfl⟩ rfl rfl hl.1 rfl (lv_room (Nat.le_of_ble_eq_true rfl)) dX8_areNeighbours_2 ⟨(Nat.le_of_ble_eq_true rfl), (Nat.le_of_ble_eq_true rfl)⟩) hP hS hA (fun H locs hP hS => ?_)
  subst hy9
  refine W.eq (g2 := F0 m 5 ls [.int (F_X8_has n a1)]) rfl ?_
  refine lv_if_eq (tgt := 48) hx hb dX8_areNeighbours_5 (by decide) (fun c_2 => ?_) (fun c_2 => ?_)
  · rw [if_pos c_2] at hM
    refine lv_iconst (v := 0) hx hb dX8_areNeighbours_48 (by decide) ?_
    refine W.widen (k := 0) (n := 0) (Nat.le_of_ble_eq_true rfl) (Nat.le_of_ble_eq_true rfl) ?_
    exact W.zret (v := 0) hx hb hr rfl (QR_.mk hS (by rw [hM])) hS.2.2 dX8_areNeighbours_49
  · rw [if_neg c_2] at hM
    refine lv_aload_n hx hb dX8_areNeighbours_8 rfl (lv_at hl 0 rfl) ?_
    refine lv_iload_n hx hb dX8_areNeighbours_9 rfl (lv_at hl 2 rfl) ?_
    obtain ⟨y9, hy9⟩ : ∃ y9, (F_X8_has n a2) = y9 := ⟨_, rfl⟩
    have hcon := (c_X8_has l hl0 D ad H.size h_S (h_S_0) (.ref h_ds) (.ref h_cs) (h_S_3) (h_S_4) (h_S_6) (h_S_7) (h_S_8) (h_S_9) n a2)
    rw [hy9] at hcon
    refine kr_ (va_runV (As := [.int a2]) (rest := []) ⟨hx, hb, hml, hown, hts⟩ hcon (cwV 1 hts gX8_areNeighbours_X8_has rfl rfl rfl (by decide +kernel) ⟨Nat.le_of_ble_eq_true rfl, Nat.le_of_ble_eq_true rfl⟩) ⟨PR_.blind, va_recv hK hP (ci := 11) (q0 := 2) rfl rfl, PR_.pre hF hK (hP.sub [2] rfl) hS hA [] rfl⟩ rfl rfl hl.1 rfl (lv_room (Nat.le_of_ble_eq_true rfl)) dX8_areNeighbours_10 ⟨(Nat.le_of_ble_eq_true rfl), (Nat.le_of_ble_eq_true rfl)⟩) hP hS hA (fun H locs hP hS => ?_)
    subst hy9
    refine W.eq (g2 := F0 m 13 ls [.int (F_X8_has n a2)]) rfl ?_
    refine lv_if_eq (tgt := 48) hx hb dX8_areNeighbours_13 (by decide) (fun c_4 => ?_) (fun c_4 => ?_)
    · rw [if_pos c_4] at hM
      refine lv_iconst (v := 0) hx hb dX8_areNeighbours_48 (by decide) ?_
      refine W.widen (k := 0) (n := 0) (Nat.le_of_ble_eq_true rfl) (Nat.le_of_ble_eq_true rfl) ?_
      exact W.zret (v := 0) hx hb hr rfl (QR_.mk hS (by rw [hM])) hS.2.2 dX8_areNeighbours_49
    · rw [if_neg c_4] at hM
      refine lv_aload_n hx hb dX8_areNeighbours_16 rfl (lv_at hl 0 rfl) ?_
      refine va_get (D := D) (ci := 11) (v := .ref h_cs) (own := RX8) (C := RX8) (T := TX8) (N := 10) hx hb hts hi_X8 hown hK hP 2 rfl rfl 2 (by decide) (hts (.fieldLink RX8 15 "CanalMaps$Survey" "costs" "[I") (List.mem_of_getElem? (i := 1) (by decide +kernel))) (fun _ h9 => h9) rfl dX8_areNeighbours_17 ?_
      refine lv_iload_n hx hb dX8_areNeighbours_20 rfl (lv_at hl 1 rfl) ?_
      refine lv_iload_n hx hb dX8_areNeighbours_21 rfl (lv_at hl 2 rfl) ?_
      obtain ⟨y9, hy9⟩ : ∃ y9, (F_X8_pair a1 a2) = y9 := ⟨_, rfl⟩
      have hcon := (c_X8_pair l hl0 D ad H.size a1 a2)
      rw [hy9] at hcon
      refine kr_ (va_runS (As := [.int a1, .int a2]) (rest := [.ref h_cs]) ⟨hx, hb, hml, hown, hts⟩ hcon (va_cwS 2 hts gX8_areNeighbours_X8_pair rfl rfl rfl (by decide +kernel) ⟨Nat.le_of_ble_eq_true rfl, Nat.le_of_ble_eq_true rfl⟩) ⟨PR_.blind, PR_.pre hF hK (hP.sub [] rfl) hS hA [] rfl⟩ rfl rfl hl.1 rfl (lv_room (Nat.le_of_ble_eq_true rfl)) dX8_areNeighbours_22 ⟨(Nat.le_of_ble_eq_true rfl), (Nat.le_of_ble_eq_true rfl)⟩) hP hS hA (fun H locs hP hS => ?_)
      subst hy9
      refine W.eq (g2 := F0 m 25 ls [.int (F_X8_pair a1 a2), .ref h_cs]) rfl ?_
      refine va_iald hx hb hK hP 1 1 rfl rfl (vinI (by have y0 := R_X8_has c_2; have y1 := R_X8_has c_4; have z0 := hy0; have rp1 := R_X8_pair a1 a2; have b10 := Int32.toInt_lt (F_X8_pair a1 a2); have d10 := Int32.le_toInt (F_X8_pair a1 a2); omega) (by have y0 := R_X8_has c_2; have y1 := R_X8_has c_4; have z0 := hy0; have rp1 := R_X8_pair a1 a2; have b10 := Int32.toInt_lt (F_X8_pair a1 a2); have d10 := Int32.le_toInt (F_X8_pair a1 a2); omega)) dX8_areNeighbours_25 ?_
      refine kt_ (v := (cs (ix (F_X8_pair a1 a2)))) rfl ?_
      refine lv_if_le (tgt := 48) hx hb dX8_areNeighbours_26 (by decide) (fun c_6 => ?_) (fun c_6 => ?_)
      · rw [if_pos c_6] at hM
        refine lv_iconst (v := 0) hx hb dX8_areNeighbours_48 (by decide) ?_
        refine W.widen (k := 0) (n := 0) (Nat.le_of_ble_eq_true rfl) (Nat.le_of_ble_eq_true rfl) ?_
        exact W.zret (v := 0) hx hb hr rfl (QR_.mk hS (by rw [hM])) hS.2.2 dX8_areNeighbours_49
      · rw [if_neg c_6] at hM
        refine lv_aload_n hx hb dX8_areNeighbours_29 rfl (lv_at hl 0 rfl) ?_
        refine va_get (D := D) (ci := 11) (v := .ref h_ds) (own := RX8) (C := RX8) (T := TX8) (N := 10) hx hb hts hi_X8 hown hK hP 2 rfl rfl 1 (by decide) (hts (.fieldLink RX8 9 "CanalMaps$Survey" "districts" "[I") (List.mem_of_getElem? (i := 2) (by decide +kernel))) (fun _ h9 => h9) rfl dX8_areNeighbours_30 ?_
        refine lv_iload_n hx hb dX8_areNeighbours_33 rfl (lv_at hl 1 rfl) ?_
        refine va_iald hx hb hK hP 0 0 rfl rfl (vinI (by have y0 := R_X8_has c_2; have y1 := R_X8_has c_4; have y2 := f_nle c_6; have z0 := hy0; have e_0 : (0 : Int32).toInt = 0 := (by decide +kernel); have rp1 := R_X8_pair a1 a2; have b11 := Int32.toInt_lt (a1); have d11 := Int32.le_toInt (a1); have x0 := ix_toNat (F_X8_pair a1 a2); omega) (by have y0 := R_X8_has c_2; have y1 := R_X8_has c_4; have y2 := f_nle c_6; have z0 := hy0; have e_0 : (0 : Int32).toInt = 0 := (by decide +kernel); have rp1 := R_X8_pair a1 a2; have b11 := Int32.toInt_lt (a1); have d11 := Int32.le_toInt (a1); have x0 := ix_toNat (F_X8_pair a1 a2); omega)) dX8_areNeighbours_34 ?_
        refine kt_ (v := (ds (ix a1))) rfl ?_
        refine lv_aload_n hx hb dX8_areNeighbours_35 rfl (lv_at hl 0 rfl) ?_
        refine va_get (D := D) (ci := 11) (v := .ref h_ds) (own := RX8) (C := RX8) (T := TX8) (N := 10) hx hb hts hi_X8 hown hK hP 2 rfl rfl 1 (by decide) (hts (.fieldLink RX8 9 "CanalMaps$Survey" "districts" "[I") (List.mem_of_getElem? (i := 2) (by decide +kernel))) (fun _ h9 => h9) rfl dX8_areNeighbours_36 ?_
        refine lv_iload_n hx hb dX8_areNeighbours_39 rfl (lv_at hl 2 rfl) ?_
        refine va_iald hx hb hK hP 0 0 rfl rfl (vinI (by have y0 := R_X8_has c_2; have y1 := R_X8_has c_4; have y2 := f_nle c_6; have z0 := hy0; have e_0 : (0 : Int32).toInt = 0 := (by decide +kernel); have rp1 := R_X8_pair a1 a2; have b12 := Int32.toInt_lt (a2); have d12 := Int32.le_toInt (a2); have x0 := ix_toNat (F_X8_pair a1 a2); omega) (by have y0 := R_X8_has c_2; have y1 := R_X8_has c_4; have y2 := f_nle c_6; have z0 := hy0; have e_0 : (0 : Int32).toInt = 0 := (by decide +kernel); have rp1 := R_X8_pair a1 a2; have b12 := Int32.toInt_lt (a2); have d12 := Int32.le_toInt (a2); have x0 := ix_toNat (F_X8_pair a1 a2); omega)) dX8_areNeighbours_40 ?_
        refine kt_ (v := (ds (ix a2))) rfl ?_
        refine lv_icmp_ne (tgt := 48) hx hb dX8_areNeighbours_41 (by decide) (fun c_7 => ?_) (fun c_7 => ?_)
        · rw [if_neg c_7] at hM
          refine lv_iconst (v := 0) hx hb dX8_areNeighbours_48 (by decide) ?_
          refine W.widen (k := 0) (n := 0) (Nat.le_of_ble_eq_true rfl) (Nat.le_of_ble_eq_true rfl) ?_
          exact W.zret (v := 0) hx hb hr rfl (QR_.mk hS (by rw [hM])) hS.2.2 dX8_areNeighbours_49
        · rw [if_pos c_7] at hM
          refine lv_iconst (v := 1) hx hb dX8_areNeighbours_44 (by decide) ?_
          refine lv_goto (tgt := 49) hx hb dX8_areNeighbours_45 (by decide) ?_
          refine W.widen (k := 0) (n := 0) (Nat.le_of_ble_eq_true rfl) (Nat.le_of_ble_eq_true rfl) ?_
          exact W.zret (v := 1) hx hb hr rfl (QR_.mk hS (by rw [hM])) hS.2.2 dX8_areNeighbours_49
def B_X8_neighboursOf_4 (ds : Nat → Int32) (cs : Nat → Int32) (n : Int32) (a1 : Int32) (rc_4 : Int32 → Int32 → (Int32 × Int32)) (x4_2 : Int32) (x4_3 : Int32) : Int32 × Int32 := (if n ≤ x4_3 then (x4_2, x4_3) else (if (F_X8_areNeighbours ds cs n a1 x4_3) = 0 then (rc_4 x4_2 (x4_3 + 1)) else (rc_4 (x4_2 + 1) (x4_3 + 1))))
def L_X8_neighboursOf_4 (ds : Nat → Int32) (cs : Nat → Int32) (n : Int32) (a1 : Int32) : Nat → Int32 → Int32 → (Int32 × Int32)
  | 0 => fun x4_2 x4_3 => (x4_2, x4_3)
  | k + 1 => B_X8_neighboursOf_4 ds cs n a1 (L_X8_neighboursOf_4 ds cs n a1 k)
def K_X8_neighboursOf_4  : (Int32 × Int32) → (Int32)
  | (x4_2, x4_3) => x4_2
def F_X8_neighboursOf (ds : Nat → Int32) (cs : Nat → Int32) (n : Int32) (a1 : Int32) : Int32 := (K_X8_neighboursOf_4 (L_X8_neighboursOf_4 ds cs n a1 (((n : Int32).toInt - (0 : Int32).toInt).toNat + 1) 0 0))
set_option maxHeartbeats 4000000 in
set_option maxRecDepth 100000 in
theorem c_X8_neighboursOf (l : Launch) (hl0 : l.stackTraces = false) (D : va_G) (ad : Nat → Nat) (sz : Nat) (h_ds : Nat) (h_cs : Nat) (h_S : Nat) (k_ds : ClassId) (k_cs : ClassId) (h_S_0 : Value) (h_S_3 : Value) (h_S_4 : Value) (h_S_6 : Value) (h_S_7 : Value) (h_S_8 : Value) (h_S_9 : Value) (ds : Nat → Int32) (cs : Nat → Int32) (n : Int32) (a1 : Int32) (hy0 : n.toInt ≤ 6) : Met l yX8_neighboursOf wsX8_neighboursOf ({ frames := 2, cells := 0, slots := 0, locals := 48 }) (PR_ D ad [(h_ds, .inl (k_ds, 6, .inl ds)), (h_cs, .inl (k_cs, 36, .inl cs)), (h_S, .inr (11, [h_S_0, .ref h_ds, .ref h_cs, h_S_3, h_S_4, .int n, h_S_6, h_S_7, h_S_8, h_S_9]))] [(k_ds, .int), (k_cs, .int)] sz [.ref h_S, .int a1]) (QR_ (.int (F_X8_neighboursOf ds cs n a1)) (va_A [] sz)) 0 0 (va_A [] sz) := by
  refine Met.ofW (cc := cX8_neighboursOf) (maxL := 4) (ret := (some .int)) (by decide) rfl ?_
  intro p e s m args below meth c s₁ B hml hv
  obtain ⟨rfl, hsz, hP, hK, hF⟩ := hv
  have hx := B.exec
  have hb := B.bytes
  have hr := B.returns
  have hts := atoms_spec (ws := wsX8_neighboursOf) B.pre
  have hown : s.vm.findClass RX8 = some m.cls := findClass_of_methodNamed B.named
  have hlocks := B.notSynchronized
  subst hsz
  generalize hAe : va_A [] s.heap.size = A at hF ⊢
  have hA : ∀ q : Nat, s.heap.size ≤ q → A q := fun q h => by rw [← hAe]; exact Or.inr h
  obtain ⟨H, hHe⟩ : ∃ H : Heap, H = s.heap := ⟨_, rfl⟩
  have hS : va_S A s.heap H [] := by rw [hHe]; exact va_S.rf
  have hP : va_P D vwCl [(h_ds, .inl (k_ds, 6, .inl ds)), (h_cs, .inl (k_cs, 36, .inl cs)), (h_S, .inr (11, [h_S_0, .ref h_ds, .ref h_cs, h_S_3, h_S_4, .int n, h_S_6, h_S_7, h_S_8, h_S_9]))] H := by rw [hHe]; exact hP
  rw [← hHe]
  have hi_X8 : ∀ w ∈ wsX80, w ∈ wsX8_neighboursOf := by decide +kernel
  have hl := lv_entry [.ref h_S, .int a1] (n := 4) (Nat.le_of_ble_eq_true rfl)
  rw [lg_entry_eq]
  generalize (lg_sl [.ref h_S, .int a1] ++ List.replicate (4 - (lg_sl [.ref h_S, .int a1]).length) Slot.unset).toArray = ls at hl ⊢
  have hl : lv_has ls 4 [(0, .ref h_S), (1, .int a1)] := hl
  have hM : F_X8_neighboursOf ds cs n a1 = (K_X8_neighboursOf_4 (L_X8_neighboursOf_4 ds cs n a1 (((n : Int32).toInt - (0 : Int32).toInt).toNat + 1) 0 0)) := rfl
  refine lv_iconst (v := 0) hx hb dX8_neighboursOf_0 (by decide) ?_
  refine lv_istore_n (lv' := [(2, .int 0), (0, .ref h_S), (1, .int a1)]) hx hb dX8_neighboursOf_1 rfl hl (by decide) rfl (fun ls hl => ?_)
  refine lv_iconst (v := 0) hx hb dX8_neighboursOf_2 (by decide) ?_
  refine lv_istore_n (lv' := [(3, .int 0), (2, .int 0), (0, .ref h_S), (1, .int a1)]) hx hb dX8_neighboursOf_3 rfl hl (by decide) rfl (fun ls hl => ?_)
  refine lpW (τ := Int32 × Int32) (fun k t H locs ls c9 s9 => ((n : Int32).toInt - (t.2 : Int32).toInt).toNat < k ∧ 0 ≤ (t.2 : Int32).toInt ∧ va_P D vwCl [(h_ds, .inl (k_ds, 6, .inl ds)), (h_cs, .inl (k_cs, 36, .inl cs)), (h_S, .inr (11, [h_S_0, .ref h_ds, .ref h_cs, h_S_3, h_S_4, .int n, h_S_6, h_S_7, h_S_8, h_S_9]))] H ∧ va_S A s.heap H locs ∧ lv_has ls 4 [(3, .int t.2), (2, .int t.1), (0, .ref h_S), (1, .int a1)] ∧ F_X8_neighboursOf ds cs n a1 = (K_X8_neighboursOf_4 (L_X8_neighboursOf_4 ds cs n a1 k t.1 t.2)) ∧ c9 = 0 ∧ s9 = 0) (fun t H locs ls c9 s9 h9 => absurd h9.1 (Nat.not_lt_zero _)) (fun k_1 ih t H locs ls c9 s9 hI => ?_) (((n : Int32).toInt - (0 : Int32).toInt).toNat + 1) (0, 0) ⟨Nat.lt_succ_self _, (show 0 ≤ (0 : Int32).toInt from (by decide +kernel)), hP, hS, (by exact hl), hM, rfl, rfl⟩
  obtain ⟨x4_2, x4_3⟩ := t
  obtain ⟨hk_1, hz_1, hP, hS, hl, hM, hcs, hss⟩ := hI
  replace hcs := hcs.symm
  subst hcs
  replace hss := hss.symm
  subst hss
  have hP : va_P D vwCl [(h_ds, .inl (k_ds, 6, .inl ds)), (h_cs, .inl (k_cs, 36, .inl cs)), (h_S, .inr (11, [h_S_0, .ref h_ds, .ref h_cs, h_S_3, h_S_4, .int n, h_S_6, h_S_7, h_S_8, h_S_9]))] H := hP
  have hl : lv_has ls 4 [(3, .int x4_3), (2, .int x4_2), (0, .ref h_S), (1, .int a1)] := hl
  have hz_1 : 0 ≤ (x4_3 : Int32).toInt := hz_1
  have hk_1 : ((n : Int32).toInt - (x4_3 : Int32).toInt).toNat < k_1 + 1 := hk_1
  have hM : F_X8_neighboursOf ds cs n a1 = (K_X8_neighboursOf_4 ((if n ≤ x4_3 then (x4_2, x4_3) else (if (F_X8_areNeighbours ds cs n a1 x4_3) = 0 then ((L_X8_neighboursOf_4 ds cs n a1 k_1) x4_2 (x4_3 + 1)) else ((L_X8_neighboursOf_4 ds cs n a1 k_1) (x4_2 + 1) (x4_3 + 1)))))) := hM
  have ih_1 := ih
  refine lv_iload_n hx hb dX8_neighboursOf_4 rfl (lv_at hl 0 rfl) ?_
  refine lv_aload_n hx hb dX8_neighboursOf_5 rfl (lv_at hl 2 rfl) ?_
  refine va_get (D := D) (ci := 11) (v := .int n) (own := RX8) (C := RX8) (T := TX8) (N := 10) hx hb hts hi_X8 hown hK hP 2 rfl rfl 5 (by decide) (hts (.fieldLink RX8 28 "CanalMaps$Survey" "surveyors" "I") (List.mem_of_getElem? (i := 1) (by decide +kernel))) (fun _ h9 => h9) rfl dX8_neighboursOf_6 ?_
  refine lv_icmp_ge (tgt := 30) hx hb dX8_neighboursOf_9 (by decide) (fun c_2 => ?_) (fun c_2 => ?_)
  · rw [if_pos c_2] at hM
    have hM : F_X8_neighboursOf ds cs n a1 = x4_2 := hM
    refine lv_iload_n hx hb dX8_neighboursOf_30 rfl (lv_at hl 1 rfl) ?_
    refine W.widen (k := 0) (n := 0) (Nat.le_of_ble_eq_true rfl) (Nat.le_of_ble_eq_true rfl) ?_
    exact W.iret (v := x4_2) hx hb hr (QR_.mk hS (by rw [hM])) hS.2.2 dX8_neighboursOf_31
  · rw [if_neg c_2] at hM
    refine lv_aload_n hx hb dX8_neighboursOf_12 rfl (lv_at hl 2 rfl) ?_
    refine lv_iload_n hx hb dX8_neighboursOf_13 rfl (lv_at hl 3 rfl) ?_
    refine lv_iload_n hx hb dX8_neighboursOf_14 rfl (lv_at hl 0 rfl) ?_
    obtain ⟨y9, hy9⟩ : ∃ y9, (F_X8_areNeighbours ds cs n a1 x4_3) = y9 := ⟨_, rfl⟩
    have hcon := (c_X8_areNeighbours l hl0 D ad H.size h_ds h_cs h_S k_ds k_cs (h_S_0) (h_S_3) (h_S_4) (h_S_6) (h_S_7) (h_S_8) (h_S_9) ds cs n a1 x4_3 (by have y0 := f_nle c_2; have z0 := hy0; have z1 := hz_1; omega))
    rw [hy9] at hcon
    refine kr_ (va_runV (As := [.int a1, .int x4_3]) (rest := []) ⟨hx, hb, hml, hown, hts⟩ hcon (cwV 2 hts gX8_neighboursOf_X8_areNeighbours rfl rfl rfl (by decide +kernel) ⟨Nat.le_of_ble_eq_true rfl, Nat.le_of_ble_eq_true rfl⟩) ⟨PR_.blind, va_recv hK hP (ci := 11) (q0 := 2) rfl rfl, PR_.pre hF hK (hP.sub [0, 1, 2] rfl) hS hA [0, 1] rfl⟩ rfl rfl hl.1 rfl (lv_room (Nat.le_of_ble_eq_true rfl)) dX8_neighboursOf_15 ⟨(Nat.le_of_ble_eq_true rfl), (Nat.le_of_ble_eq_true rfl)⟩) hP hS hA (fun H locs hP hS => ?_)
    subst hy9
    refine W.eq (g2 := F0 m 18 ls [.int (F_X8_areNeighbours ds cs n a1 x4_3)]) rfl ?_
    refine lv_if_eq (tgt := 24) hx hb dX8_neighboursOf_18 (by decide) (fun c_4 => ?_) (fun c_4 => ?_)
    · rw [if_pos c_4] at hM
      refine lv_iinc (v := (x4_3 + 1)) (lv' := [(3, .int (x4_3 + 1)), (2, .int x4_2), (0, .ref h_S), (1, .int a1)]) hx hb dX8_neighboursOf_24 hl (k := 0) rfl rfl (by decide) rfl (fun ls hl => ?_)
      refine lv_goto (tgt := 4) hx hb dX8_neighboursOf_27 (by decide) ?_
      exact ih_1 (x4_2, (x4_3 + 1)) _ _ _ _ _ ⟨lp_up hk_1 c_2, lp_up0 hz_1 c_2, hP, hS, lv_sub hl [0, 1, 2, 3] rfl, hM, rfl, rfl⟩
    · rw [if_neg c_4] at hM
      refine lv_iinc (v := (x4_2 + 1)) (lv' := [(2, .int (x4_2 + 1)), (3, .int x4_3), (0, .ref h_S), (1, .int a1)]) hx hb dX8_neighboursOf_21 hl (k := 1) rfl rfl (by decide) rfl (fun ls hl => ?_)
      refine lv_iinc (v := (x4_3 + 1)) (lv' := [(3, .int (x4_3 + 1)), (2, .int (x4_2 + 1)), (0, .ref h_S), (1, .int a1)]) hx hb dX8_neighboursOf_24 hl (k := 1) rfl rfl (by decide) rfl (fun ls hl => ?_)
      refine lv_goto (tgt := 4) hx hb dX8_neighboursOf_27 (by decide) ?_
      exact ih_1 ((x4_2 + 1), (x4_3 + 1)) _ _ _ _ _ ⟨lp_up hk_1 c_2, lp_up0 hz_1 c_2, hP, hS, lv_sub hl [0, 1, 2, 3] rfl, hM, rfl, rfl⟩
def B_X8_canalsOf_4 (cs : Nat → Int32) (n : Int32) (a1 : Int32) (rc_4 : Int32 → Int32 → (Int32 × Int32)) (x4_2 : Int32) (x4_3 : Int32) : Int32 × Int32 := (if n ≤ x4_3 then (x4_2, x4_3) else (if (F_X8_costBetween cs a1 x4_3) ≤ 0 then (rc_4 x4_2 (x4_3 + 1)) else (rc_4 (x4_2 + 1) (x4_3 + 1))))
def L_X8_canalsOf_4 (cs : Nat → Int32) (n : Int32) (a1 : Int32) : Nat → Int32 → Int32 → (Int32 × Int32)
  | 0 => fun x4_2 x4_3 => (x4_2, x4_3)
  | k + 1 => B_X8_canalsOf_4 cs n a1 (L_X8_canalsOf_4 cs n a1 k)
def K_X8_canalsOf_4  : (Int32 × Int32) → (Int32)
  | (x4_2, x4_3) => x4_2
def F_X8_canalsOf (cs : Nat → Int32) (n : Int32) (a1 : Int32) : Int32 := (K_X8_canalsOf_4 (L_X8_canalsOf_4 cs n a1 (((n : Int32).toInt - (0 : Int32).toInt).toNat + 1) 0 0))
set_option maxHeartbeats 4000000 in
set_option maxRecDepth 100000 in
theorem c_X8_canalsOf (l : Launch) (hl0 : l.stackTraces = false) (D : va_G) (ad : Nat → Nat) (sz : Nat) (h_cs : Nat) (h_S : Nat) (k_cs : ClassId) (h_S_0 : Value) (h_S_1 : Value) (h_S_3 : Value) (h_S_4 : Value) (h_S_6 : Value) (h_S_7 : Value) (h_S_8 : Value) (h_S_9 : Value) (cs : Nat → Int32) (n : Int32) (a1 : Int32) (hy0 : n.toInt ≤ 6) : Met l yX8_canalsOf wsX8_canalsOf ({ frames := 2, cells := 0, slots := 0, locals := 48 }) (PR_ D ad [(h_cs, .inl (k_cs, 36, .inl cs)), (h_S, .inr (11, [h_S_0, h_S_1, .ref h_cs, h_S_3, h_S_4, .int n, h_S_6, h_S_7, h_S_8, h_S_9]))] [(k_cs, .int)] sz [.ref h_S, .int a1]) (QR_ (.int (F_X8_canalsOf cs n a1)) (va_A [] sz)) 0 0 (va_A [] sz) := by
  refine Met.ofW (cc := cX8_canalsOf) (maxL := 4) (ret := (some .int)) (by decide) rfl ?_
  intro p e s m args below meth c s₁ B hml hv
  obtain ⟨rfl, hsz, hP, hK, hF⟩ := hv
  have hx := B.exec
  have hb := B.bytes
  have hr := B.returns
  have hts := atoms_spec (ws := wsX8_canalsOf) B.pre
  have hown : s.vm.findClass RX8 = some m.cls := findClass_of_methodNamed B.named
  have hlocks := B.notSynchronized
  subst hsz
  generalize hAe : va_A [] s.heap.size = A at hF ⊢
  have hA : ∀ q : Nat, s.heap.size ≤ q → A q := fun q h => by rw [← hAe]; exact Or.inr h
  obtain ⟨H, hHe⟩ : ∃ H : Heap, H = s.heap := ⟨_, rfl⟩
  have hS : va_S A s.heap H [] := by rw [hHe]; exact va_S.rf
  have hP : va_P D vwCl [(h_cs, .inl (k_cs, 36, .inl cs)), (h_S, .inr (11, [h_S_0, h_S_1, .ref h_cs, h_S_3, h_S_4, .int n, h_S_6, h_S_7, h_S_8, h_S_9]))] H := by rw [hHe]; exact hP
  rw [← hHe]
  have hi_X8 : ∀ w ∈ wsX80, w ∈ wsX8_canalsOf := by decide +kernel
  have hl := lv_entry [.ref h_S, .int a1] (n := 4) (Nat.le_of_ble_eq_true rfl)
  rw [lg_entry_eq]
  generalize (lg_sl [.ref h_S, .int a1] ++ List.replicate (4 - (lg_sl [.ref h_S, .int a1]).length) Slot.unset).toArray = ls at hl ⊢
  have hl : lv_has ls 4 [(0, .ref h_S), (1, .int a1)] := hl
  have hM : F_X8_canalsOf cs n a1 = (K_X8_canalsOf_4 (L_X8_canalsOf_4 cs n a1 (((n : Int32).toInt - (0 : Int32).toInt).toNat + 1) 0 0)) := rfl
  refine lv_iconst (v := 0) hx hb dX8_canalsOf_0 (by decide) ?_
  refine lv_istore_n (lv' := [(2, .int 0), (0, .ref h_S), (1, .int a1)]) hx hb dX8_canalsOf_1 rfl hl (by decide) rfl (fun ls hl => ?_)
  refine lv_iconst (v := 0) hx hb dX8_canalsOf_2 (by decide) ?_
  refine lv_istore_n (lv' := [(3, .int 0), (2, .int 0), (0, .ref h_S), (1, .int a1)]) hx hb dX8_canalsOf_3 rfl hl (by decide) rfl (fun ls hl => ?_)
  refine lpW (τ := Int32 × Int32) (fun k t H locs ls c9 s9 => ((n : Int32).toInt - (t.2 : Int32).toInt).toNat < k ∧ 0 ≤ (t.2 : Int32).toInt ∧ va_P D vwCl [(h_cs, .inl (k_cs, 36, .inl cs)), (h_S, .inr (11, [h_S_0, h_S_1, .ref h_cs, h_S_3, h_S_4, .int n, h_S_6, h_S_7, h_S_8, h_S_9]))] H ∧ va_S A s.heap H locs ∧ lv_has ls 4 [(3, .int t.2), (2, .int t.1), (0, .ref h_S), (1, .int a1)] ∧ F_X8_canalsOf cs n a1 = (K_X8_canalsOf_4 (L_X8_canalsOf_4 cs n a1 k t.1 t.2)) ∧ c9 = 0 ∧ s9 = 0) (fun t H locs ls c9 s9 h9 => absurd h9.1 (Nat.not_lt_zero _)) (fun k_1 ih t H locs ls c9 s9 hI => ?_) (((n : Int32).toInt - (0 : Int32).toInt).toNat + 1) (0, 0) ⟨Nat.lt_succ_self _, (show 0 ≤ (0 : Int32).toInt from (by decide +kernel)), hP, hS, (by exact hl), hM, rfl, rfl⟩
  obtain ⟨x4_2, x4_3⟩ := t
  obtain ⟨hk_1, hz_1, hP, hS, hl, hM, hcs, hss⟩ := hI
  replace hcs := hcs.symm
  subst hcs
  replace hss := hss.symm
  subst hss
  have hP : va_P D vwCl [(h_cs, .inl (k_cs, 36, .inl cs)), (h_S, .inr (11, [h_S_0, h_S_1, .ref h_cs, h_S_3, h_S_4, .int n, h_S_6, h_S_7, h_S_8, h_S_9]))] H := hP
  have hl : lv_has ls 4 [(3, .int x4_3), (2, .int x4_2), (0, .ref h_S), (1, .int a1)] := hl
  have hz_1 : 0 ≤ (x4_3 : Int32).toInt := hz_1
  have hk_1 : ((n : Int32).toInt - (x4_3 : Int32).toInt).toNat < k_1 + 1 := hk_1
  have hM : F_X8_canalsOf cs n a1 = (K_X8_canalsOf_4 ((if n ≤ x4_3 then (x4_2, x4_3) else (if (F_X8_costBetween cs a1 x4_3) ≤ 0 then ((L_X8_canalsOf_4 cs n a1 k_1) x4_2 (x4_3 + 1)) else ((L_X8_canalsOf_4 cs n a1 k_1) (x4_2 + 1) (x4_3 + 1)))))) := hM
  have ih_1 := ih
  refine lv_iload_n hx hb dX8_canalsOf_4 rfl (lv_at hl 0 rfl) ?_
  refine lv_aload_n hx hb dX8_canalsOf_5 rfl (lv_at hl 2 rfl) ?_
  refine va_get (D := D) (ci := 11) (v := .int n) (own := RX8) (C := RX8) (T := TX8) (N := 10) hx hb hts hi_X8 hown hK hP 1 rfl rfl 5 (by decide) (hts (.fieldLink RX8 28 "CanalMaps$Survey" "surveyors" "I") (List.mem_of_getElem? (i := 1) (by decide +kernel))) (fun _ h9 => h9) rfl dX8_canalsOf_6 ?_
  refine lv_icmp_ge (tgt := 30) hx hb dX8_canalsOf_9 (by decide) (fun c_2 => ?_) (fun c_2 => ?_)
  · rw [if_pos c_2] at hM
    have hM : F_X8_canalsOf cs n a1 = x4_2 := hM
    refine lv_iload_n hx hb dX8_canalsOf_30 rfl (lv_at hl 1 rfl) ?_
    refine W.widen (k := 0) (n := 0) (Nat.le_of_ble_eq_true rfl) (Nat.le_of_ble_eq_true rfl) ?_
    exact W.iret (v := x4_2) hx hb hr (QR_.mk hS (by rw [hM])) hS.2.2 dX8_canalsOf_31
  · rw [if_neg c_2] at hM
    refine lv_aload_n hx hb dX8_canalsOf_12 rfl (lv_at hl 2 rfl) ?_
    refine lv_iload_n hx hb dX8_canalsOf_13 rfl (lv_at hl 3 rfl) ?_
    refine lv_iload_n hx hb dX8_canalsOf_14 rfl (lv_at hl 0 rfl) ?_
    obtain ⟨y9, hy9⟩ : ∃ y9, (F_X8_costBetween cs a1 x4_3) = y9 := ⟨_, rfl⟩
    have hcon := (c_X8_costBetween l hl0 D ad H.size h_cs h_S k_cs (h_S_0) (h_S_1) (h_S_3) (h_S_4) (.int n) (h_S_6) (h_S_7) (h_S_8) (h_S_9) cs a1 x4_3)
    rw [hy9] at hcon
    refine kr_ (va_runV (As := [.int a1, .int x4_3]) (rest := []) ⟨hx, hb, hml, hown, hts⟩ hcon (cwV 2 hts gX8_canalsOf_X8_costBetween rfl rfl rfl (by decide +kernel) ⟨Nat.le_of_ble_eq_true rfl, Nat.le_of_ble_eq_true rfl⟩) ⟨PR_.blind, va_recv hK hP (ci := 11) (q0 := 1) rfl rfl, PR_.pre hF hK (hP.sub [0, 1] rfl) hS hA [0] rfl⟩ rfl rfl hl.1 rfl (lv_room (Nat.le_of_ble_eq_true rfl)) dX8_canalsOf_15 ⟨(Nat.le_of_ble_eq_true rfl), (Nat.le_of_ble_eq_true rfl)⟩) hP hS hA (fun H locs hP hS => ?_)
    subst hy9
    refine W.eq (g2 := F0 m 18 ls [.int (F_X8_costBetween cs a1 x4_3)]) rfl ?_
    refine lv_if_le (tgt := 24) hx hb dX8_canalsOf_18 (by decide) (fun c_4 => ?_) (fun c_4 => ?_)
    · rw [if_pos c_4] at hM
      refine lv_iinc (v := (x4_3 + 1)) (lv' := [(3, .int (x4_3 + 1)), (2, .int x4_2), (0, .ref h_S), (1, .int a1)]) hx hb dX8_canalsOf_24 hl (k := 0) rfl rfl (by decide) rfl (fun ls hl => ?_)
      refine lv_goto (tgt := 4) hx hb dX8_canalsOf_27 (by decide) ?_
      exact ih_1 (x4_2, (x4_3 + 1)) _ _ _ _ _ ⟨lp_up hk_1 c_2, lp_up0 hz_1 c_2, hP, hS, lv_sub hl [0, 1, 2, 3] rfl, hM, rfl, rfl⟩
    · rw [if_neg c_4] at hM
      refine lv_iinc (v := (x4_2 + 1)) (lv' := [(2, .int (x4_2 + 1)), (3, .int x4_3), (0, .ref h_S), (1, .int a1)]) hx hb dX8_canalsOf_21 hl (k := 1) rfl rfl (by decide) rfl (fun ls hl => ?_)
      refine lv_iinc (v := (x4_3 + 1)) (lv' := [(3, .int (x4_3 + 1)), (2, .int (x4_2 + 1)), (0, .ref h_S), (1, .int a1)]) hx hb dX8_canalsOf_24 hl (k := 1) rfl rfl (by decide) rfl (fun ls hl => ?_)
      refine lv_goto (tgt := 4) hx hb dX8_canalsOf_27 (by decide) ?_
      exact ih_1 ((x4_2 + 1), (x4_3 + 1)) _ _ _ _ _ ⟨lp_up hk_1 c_2, lp_up0 hz_1 c_2, hP, hS, lv_sub hl [0, 1, 2, 3] rfl, hM, rfl, rfl⟩
def B_X8_countCanals_4 (cs : Nat → Int32) (n : Int32) (rc_4 : Int32 → Int32 → (Int32 × Int32)) (x4_1 : Int32) (x4_2 : Int32) : Int32 × Int32 := (if n ≤ x4_2 then (x4_1, x4_2) else (rc_4 (x4_1 + (F_X8_canalsOf cs n x4_2)) (x4_2 + 1)))
def L_X8_countCanals_4 (cs : Nat → Int32) (n : Int32) : Nat → Int32 → Int32 → (Int32 × Int32)
  | 0 => fun x4_1 x4_2 => (x4_1, x4_2)
  | k + 1 => B_X8_countCanals_4 cs n (L_X8_countCanals_4 cs n k)
def K_X8_countCanals_4  : (Int32 × Int32) → (Int32)
  | (x4_1, x4_2) => (x4_1 / 2)
def F_X8_countCanals (cs : Nat → Int32) (n : Int32) : Int32 := (K_X8_countCanals_4 (L_X8_countCanals_4 cs n (((n : Int32).toInt - (0 : Int32).toInt).toNat + 1) 0 0))
set_option maxHeartbeats 4000000 in
set_option maxRecDepth 100000 in
theorem c_X8_countCanals (l : Launch) (hl0 : l.stackTraces = false) (D : va_G) (ad : Nat → Nat) (sz : Nat) (h_cs : Nat) (h_S : Nat) (k_cs : ClassId) (h_S_0 : Value) (h_S_1 : Value) (h_S_3 : Value) (h_S_4 : Value) (h_S_6 : Value) (h_S_7 : Value) (h_S_8 : Value) (h_S_9 : Value) (cs : Nat → Int32) (n : Int32) (hy0 : n.toInt ≤ 6) : Met l yX8_countCanals wsX8_countCanals ({ frames := 3, cells := 0, slots := 0, locals := 73 }) (PR_ D ad [(h_cs, .inl (k_cs, 36, .inl cs)), (h_S, .inr (11, [h_S_0, h_S_1, .ref h_cs, h_S_3, h_S_4, .int n, h_S_6, h_S_7, h_S_8, h_S_9]))] [(k_cs, .int)] sz [.ref h_S]) (QR_ (.int (F_X8_countCanals cs n)) (va_A [] sz)) 0 0 (va_A [] sz) := by
  refine Met.ofW (cc := cX8_countCanals) (maxL := 3) (ret := (some .int)) (by decide) rfl ?_
  intro p e s m args below meth c s₁ B hml hv
  obtain ⟨rfl, hsz, hP, hK, hF⟩ := hv
  have hx := B.exec
  have hb := B.bytes
  have hr := B.returns
  have hts := atoms_spec (ws := wsX8_countCanals) B.pre
  have hown : s.vm.findClass RX8 = some m.cls := findClass_of_methodNamed B.named
  have hlocks := B.notSynchronized
  subst hsz
  generalize hAe : va_A [] s.heap.size = A at hF ⊢
  have hA : ∀ q : Nat, s.heap.size ≤ q → A q := fun q h => by rw [← hAe]; exact Or.inr h
  obtain ⟨H, hHe⟩ : ∃ H : Heap, H = s.heap := ⟨_, rfl⟩
  have hS : va_S A s.heap H [] := by rw [hHe]; exact va_S.rf
  have hP : va_P D vwCl [(h_cs, .inl (k_cs, 36, .inl cs)), (h_S, .inr (11, [h_S_0, h_S_1, .ref h_cs, h_S_3, h_S_4, .int n, h_S_6, h_S_7, h_S_8, h_S_9]))] H := by rw [hHe]; exact hP
  rw [← hHe]
  have hi_X8 : ∀ w ∈ wsX80, w ∈ wsX8_countCanals := by decide +kernel
  have hl := lv_entry [.ref h_S] (n := 3) (Nat.le_of_ble_eq_true rfl)
  rw [lg_entry_eq]
  generalize (lg_sl [.ref h_S] ++ List.replicate (3 - (lg_sl [.ref h_S]).length) Slot.unset).toArray = ls at hl ⊢
  have hl : lv_has ls 3 [(0, .ref h_S)] := hl
  have hM : F_X8_countCanals cs n = (K_X8_countCanals_4 (L_X8_countCanals_4 cs n (((n : Int32).toInt - (0 : Int32).toInt).toNat + 1) 0 0)) := rfl
  refine lv_iconst (v := 0) hx hb dX8_countCanals_0 (by decide) ?_
  refine lv_istore_n (lv' := [(1, .int 0), (0, .ref h_S)]) hx hb dX8_countCanals_1 rfl hl (by decide) rfl (fun ls hl => ?_)
  refine lv_iconst (v := 0) hx hb dX8_countCanals_2 (by decide) ?_
  refine lv_istore_n (lv' := [(2, .int 0), (1, .int 0), (0, .ref h_S)]) hx hb dX8_countCanals_3 rfl hl (by decide) rfl (fun ls hl => ?_)
  refine lpW (τ := Int32 × Int32) (fun k t H locs ls c9 s9 => ((n : Int32).toInt - (t.2 : Int32).toInt).toNat < k ∧ 0 ≤ (t.2 : Int32).toInt ∧ va_P D vwCl [(h_cs, .inl (k_cs, 36, .inl cs)), (h_S, .inr (11, [h_S_0, h_S_1, .ref h_cs, h_S_3, h_S_4, .int n, h_S_6, h_S_7, h_S_8, h_S_9]))] H ∧ va_S A s.heap H locs ∧ lv_has ls 3 [(2, .int t.2), (1, .int t.1), (0, .ref h_S)] ∧ F_X8_countCanals cs n = (K_X8_countCanals_4 (L_X8_countCanals_4 cs n k t.1 t.2)) ∧ c9 = 0 ∧ s9 = 0) (fun t H locs ls c9 s9 h9 => absurd h9.1 (Nat.not_lt_zero _)) (fun k_1 ih t H locs ls c9 s9 hI => ?_) (((n : Int32).toInt - (0 : Int32).toInt).toNat + 1) (0, 0) ⟨Nat.lt_succ_self _, (show 0 ≤ (0 : Int32).toInt from (by decide +kernel)), hP, hS, (by exact hl), hM, rfl, rfl⟩
  obtain ⟨x4_1, x4_2⟩ := t
  obtain ⟨hk_1, hz_1, hP, hS, hl, hM, hcs, hss⟩ := hI
  replace hcs := hcs.symm
  subst hcs
  replace hss := hss.symm
  subst hss
  have hP : va_P D vwCl [(h_cs, .inl (k_cs, 36, .inl cs)), (h_S, .inr (11, [h_S_0, h_S_1, .ref h_cs, h_S_3, h_S_4, .int n, h_S_6, h_S_7, h_S_8, h_S_9]))] H := hP
  have hl : lv_has ls 3 [(2, .int x4_2), (1, .int x4_1), (0, .ref h_S)] := hl
  have hz_1 : 0 ≤ (x4_2 : Int32).toInt := hz_1
  have hk_1 : ((n : Int32).toInt - (x4_2 : Int32).toInt).toNat < k_1 + 1 := hk_1
  have hM : F_X8_countCanals cs n = (K_X8_countCanals_4 ((if n ≤ x4_2 then (x4_1, x4_2) else ((L_X8_countCanals_4 cs n k_1) (x4_1 + (F_X8_canalsOf cs n x4_2)) (x4_2 + 1))))) := hM
  have ih_1 := ih
  refine lv_iload_n hx hb dX8_countCanals_4 rfl (lv_at hl 0 rfl) ?_
  refine lv_aload_n hx hb dX8_countCanals_5 rfl (lv_at hl 2 rfl) ?_
  refine va_get (D := D) (ci := 11) (v := .int n) (own := RX8) (C := RX8) (T := TX8) (N := 10) hx hb hts hi_X8 hown hK hP 1 rfl rfl 5 (by decide) (hts (.fieldLink RX8 28 "CanalMaps$Survey" "surveyors" "I") (List.mem_of_getElem? (i := 1) (by decide +kernel))) (fun _ h9 => h9) rfl dX8_countCanals_6 ?_
  refine lv_icmp_ge (tgt := 26) hx hb dX8_countCanals_9 (by decide) (fun c_2 => ?_) (fun c_2 => ?_)
  · rw [if_pos c_2] at hM
    have hM : F_X8_countCanals cs n = (x4_1 / 2) := hM
    refine lv_iload_n hx hb dX8_countCanals_26 rfl (lv_at hl 1 rfl) ?_
    refine lv_iconst (v := 2) hx hb dX8_countCanals_27 (by decide) ?_
    refine lv_idiv hx hb dX8_countCanals_28 (by decide +kernel) ?_
    refine W.widen (k := 0) (n := 0) (Nat.le_of_ble_eq_true rfl) (Nat.le_of_ble_eq_true rfl) ?_
    exact W.iret (v := (x4_1 / 2)) hx hb hr (QR_.mk hS (by rw [hM])) hS.2.2 dX8_countCanals_29
  · rw [if_neg c_2] at hM
    refine lv_iload_n hx hb dX8_countCanals_12 rfl (lv_at hl 1 rfl) ?_
    refine lv_aload_n hx hb dX8_countCanals_13 rfl (lv_at hl 2 rfl) ?_
    refine lv_iload_n hx hb dX8_countCanals_14 rfl (lv_at hl 0 rfl) ?_
    obtain ⟨y9, hy9⟩ : ∃ y9, (F_X8_canalsOf cs n x4_2) = y9 := ⟨_, rfl⟩
    have hcon := (c_X8_canalsOf l hl0 D ad H.size h_cs h_S k_cs (h_S_0) (h_S_1) (h_S_3) (h_S_4) (h_S_6) (h_S_7) (h_S_8) (h_S_9) cs n x4_2 (by have y0 := f_nle c_2; have z0 := hy0; have z1 := hz_1; omega))
    rw [hy9] at hcon
    refine kr_ (va_runV (As := [.int x4_2]) (rest := [.int x4_1]) ⟨hx, hb, hml, hown, hts⟩ hcon (cwV 1 hts gX8_countCanals_X8_canalsOf rfl rfl rfl (by decide +kernel) ⟨Nat.le_of_ble_eq_true rfl, Nat.le_of_ble_eq_true rfl⟩) ⟨PR_.blind, va_recv hK hP (ci := 11) (q0 := 1) rfl rfl, PR_.pre hF hK (hP.sub [0, 1] rfl) hS hA [0] rfl⟩ rfl rfl hl.1 rfl (lv_room (Nat.le_of_ble_eq_true rfl)) dX8_countCanals_15 ⟨(Nat.le_of_ble_eq_true rfl), (Nat.le_of_ble_eq_true rfl)⟩) hP hS hA (fun H locs hP hS => ?_)
    subst hy9
    refine W.eq (g2 := F0 m 18 ls [.int (F_X8_canalsOf cs n x4_2), .int x4_1]) rfl ?_
    refine lv_iadd hx hb dX8_countCanals_18 ?_
    refine lv_istore_n (lv' := [(1, .int (x4_1 + (F_X8_canalsOf cs n x4_2))), (2, .int x4_2), (0, .ref h_S)]) hx hb dX8_countCanals_19 rfl hl (by decide) rfl (fun ls hl => ?_)
    refine lv_iinc (v := (x4_2 + 1)) (lv' := [(2, .int (x4_2 + 1)), (1, .int (x4_1 + (F_X8_canalsOf cs n x4_2))), (0, .ref h_S)]) hx hb dX8_countCanals_20 hl (k := 1) rfl rfl (by decide) rfl (fun ls hl => ?_)
    refine lv_goto (tgt := 4) hx hb dX8_countCanals_23 (by decide) ?_
    exact ih_1 ((x4_1 + (F_X8_canalsOf cs n x4_2)), (x4_2 + 1)) _ _ _ _ _ ⟨lp_up hk_1 c_2, lp_up0 hz_1 c_2, hP, hS, lv_sub hl [0, 1, 2] rfl, hM, rfl, rfl⟩
def B_X8_sumOfCosts_14 (cs : Nat → Int32) (x4_2 : Int32) (rc_14 : Int32 → Int32 → (Int32 × Int32)) (x14_1 : Int32) (x14_3 : Int32) : Int32 × Int32 := (if x4_2 ≤ x14_3 then (x14_1, x14_3) else (rc_14 (x14_1 + (F_X8_costBetween cs x4_2 x14_3)) (x14_3 + 1)))
def L_X8_sumOfCosts_14 (cs : Nat → Int32) (x4_2 : Int32) : Nat → Int32 → Int32 → (Int32 × Int32)
  | 0 => fun x14_1 x14_3 => (x14_1, x14_3)
  | k + 1 => B_X8_sumOfCosts_14 cs x4_2 (L_X8_sumOfCosts_14 cs x4_2 k)
def K_X8_sumOfCosts_14 (x4_2 : Int32) (rc_4 : Int32 → Int32 → (Int32 × Int32)) : (Int32 × Int32) → (Int32 × Int32)
  | (x14_1, x14_3) => (rc_4 x14_1 (x4_2 + 1))
def B_X8_sumOfCosts_4 (cs : Nat → Int32) (n : Int32) (rc_4 : Int32 → Int32 → (Int32 × Int32)) (x4_1 : Int32) (x4_2 : Int32) : Int32 × Int32 := (if n ≤ x4_2 then (x4_1, x4_2) else (K_X8_sumOfCosts_14 x4_2 rc_4 (L_X8_sumOfCosts_14 cs x4_2 (((x4_2 : Int32).toInt - (0 : Int32).toInt).toNat + 1) x4_1 0)))
def L_X8_sumOfCosts_4 (cs : Nat → Int32) (n : Int32) : Nat → Int32 → Int32 → (Int32 × Int32)
  | 0 => fun x4_1 x4_2 => (x4_1, x4_2)
  | k + 1 => B_X8_sumOfCosts_4 cs n (L_X8_sumOfCosts_4 cs n k)
def K_X8_sumOfCosts_4  : (Int32 × Int32) → (Int32)
  | (x4_1, x4_2) => x4_1
def F_X8_sumOfCosts (cs : Nat → Int32) (n : Int32) : Int32 := (K_X8_sumOfCosts_4 (L_X8_sumOfCosts_4 cs n (((n : Int32).toInt - (0 : Int32).toInt).toNat + 1) 0 0))
set_option maxHeartbeats 4000000 in
set_option maxRecDepth 100000 in
theorem c_X8_sumOfCosts (l : Launch) (hl0 : l.stackTraces = false) (D : va_G) (ad : Nat → Nat) (sz : Nat) (h_cs : Nat) (h_S : Nat) (k_cs : ClassId) (h_S_0 : Value) (h_S_1 : Value) (h_S_3 : Value) (h_S_4 : Value) (h_S_6 : Value) (h_S_7 : Value) (h_S_8 : Value) (h_S_9 : Value) (cs : Nat → Int32) (n : Int32) (hy0 : n.toInt ≤ 6) : Met l yX8_sumOfCosts wsX8_sumOfCosts ({ frames := 2, cells := 0, slots := 0, locals := 48 }) (PR_ D ad [(h_cs, .inl (k_cs, 36, .inl cs)), (h_S, .inr (11, [h_S_0, h_S_1, .ref h_cs, h_S_3, h_S_4, .int n, h_S_6, h_S_7, h_S_8, h_S_9]))] [(k_cs, .int)] sz [.ref h_S]) (QR_ (.int (F_X8_sumOfCosts cs n)) (va_A [] sz)) 0 0 (va_A [] sz) := by
  refine Met.ofW (cc := cX8_sumOfCosts) (maxL := 4) (ret := (some .int)) (by decide) rfl ?_
  intro p e s m args below meth c s₁ B hml hv
  obtain ⟨rfl, hsz, hP, hK, hF⟩ := hv
  have hx := B.exec
  have hb := B.bytes
  have hr := B.returns
  have hts := atoms_spec (ws := wsX8_sumOfCosts) B.pre
  have hown : s.vm.findClass RX8 = some m.cls := findClass_of_methodNamed B.named
  have hlocks := B.notSynchronized
  subst hsz
  generalize hAe : va_A [] s.heap.size = A at hF ⊢
  have hA : ∀ q : Nat, s.heap.size ≤ q → A q := fun q h => by rw [← hAe]; exact Or.inr h
  obtain ⟨H, hHe⟩ : ∃ H : Heap, H = s.heap := ⟨_, rfl⟩
  have hS : va_S A s.heap H [] := by rw [hHe]; exact va_S.rf
  have hP : va_P D vwCl [(h_cs, .inl (k_cs, 36, .inl cs)), (h_S, .inr (11, [h_S_0, h_S_1, .ref h_cs, h_S_3, h_S_4, .int n, h_S_6, h_S_7, h_S_8, h_S_9]))] H := by rw [hHe]; exact hP
  rw [← hHe]
  have hi_X8 : ∀ w ∈ wsX80, w ∈ wsX8_sumOfCosts := by decide +kernel
  have hl := lv_entry [.ref h_S] (n := 4) (Nat.le_of_ble_eq_true rfl)
  rw [lg_entry_eq]
  generalize (lg_sl [.ref h_S] ++ List.replicate (4 - (lg_sl [.ref h_S]).length) Slot.unset).toArray = ls at hl ⊢
  have hl : lv_has ls 4 [(0, .ref h_S)] := hl
  have hM : F_X8_sumOfCosts cs n = (K_X8_sumOfCosts_4 (L_X8_sumOfCosts_4 cs n (((n : Int32).toInt - (0 : Int32).toInt).toNat + 1) 0 0)) := rfl
  refine lv_iconst (v := 0) hx hb dX8_sumOfCosts_0 (by decide) ?_
  refine lv_istore_n (lv' := [(1, .int 0), (0, .ref h_S)]) hx hb dX8_sumOfCosts_1 rfl hl (by decide) rfl (fun ls hl => ?_)
  refine lv_iconst (v := 0) hx hb dX8_sumOfCosts_2 (by decide) ?_
  refine lv_istore_n (lv' := [(2, .int 0), (1, .int 0), (0, .ref h_S)]) hx hb dX8_sumOfCosts_3 rfl hl (by decide) rfl (fun ls hl => ?_)
  refine lpW (τ := Int32 × Int32) (fun k t H locs ls c9 s9 => ((n : Int32).toInt - (t.2 : Int32).toInt).toNat < k ∧ 0 ≤ (t.2 : Int32).toInt ∧ va_P D vwCl [(h_cs, .inl (k_cs, 36, .inl cs)), (h_S, .inr (11, [h_S_0, h_S_1, .ref h_cs, h_S_3, h_S_4, .int n, h_S_6, h_S_7, h_S_8, h_S_9]))] H ∧ va_S A s.heap H locs ∧ lv_has ls 4 [(2, .int t.2), (1, .int t.1), (0, .ref h_S)] ∧ F_X8_sumOfCosts cs n = (K_X8_sumOfCosts_4 (L_X8_sumOfCosts_4 cs n k t.1 t.2)) ∧ c9 = 0 ∧ s9 = 0) (fun t H locs ls c9 s9 h9 => absurd h9.1 (Nat.not_lt_zero _)) (fun k_1 ih t H locs ls c9 s9 hI => ?_) (((n : Int32).toInt - (0 : Int32).toInt).toNat + 1) (0, 0) ⟨Nat.lt_succ_self _, (show 0 ≤ (0 : Int32).toInt from (by decide +kernel)), hP, hS, (by exact hl), hM, rfl, rfl⟩
  obtain ⟨x4_1, x4_2⟩ := t
  obtain ⟨hk_1, hz_1, hP, hS, hl, hM, hcs, hss⟩ := hI
  replace hcs := hcs.symm
  subst hcs
  replace hss := hss.symm
  subst hss
  have hP : va_P D vwCl [(h_cs, .inl (k_cs, 36, .inl cs)), (h_S, .inr (11, [h_S_0, h_S_1, .ref h_cs, h_S_3, h_S_4, .int n, h_S_6, h_S_7, h_S_8, h_S_9]))] H := hP
  have hl : lv_has ls 4 [(2, .int x4_2), (1, .int x4_1), (0, .ref h_S)] := hl
  have hz_1 : 0 ≤ (x4_2 : Int32).toInt := hz_1
  have hk_1 : ((n : Int32).toInt - (x4_2 : Int32).toInt).toNat < k_1 + 1 := hk_1
  have hM : F_X8_sumOfCosts cs n = (K_X8_sumOfCosts_4 ((if n ≤ x4_2 then (x4_1, x4_2) else (K_X8_sumOfCosts_14 x4_2 (L_X8_sumOfCosts_4 cs n k_1) (L_X8_sumOfCosts_14 cs x4_2 (((x4_2 : Int32).toInt - (0 : Int32).toInt).toNat + 1) x4_1 0))))) := hM
  have ih_1 := ih
  refine lv_iload_n hx hb dX8_sumOfCosts_4 rfl (lv_at hl 0 rfl) ?_
  refine lv_aload_n hx hb dX8_sumOfCosts_5 rfl (lv_at hl 2 rfl) ?_
  refine va_get (D := D) (ci := 11) (v := .int n) (own := RX8) (C := RX8) (T := TX8) (N := 10) hx hb hts hi_X8 hown hK hP 1 rfl rfl 5 (by decide) (hts (.fieldLink RX8 28 "CanalMaps$Survey" "surveyors" "I") (List.mem_of_getElem? (i := 1) (by decide +kernel))) (fun _ h9 => h9) rfl dX8_sumOfCosts_6 ?_
  refine lv_icmp_ge (tgt := 40) hx hb dX8_sumOfCosts_9 (by decide) (fun c_2 => ?_) (fun c_2 => ?_)
  · rw [if_pos c_2] at hM
    have hM : F_X8_sumOfCosts cs n = x4_1 := hM
    refine lv_iload_n hx hb dX8_sumOfCosts_40 rfl (lv_at hl 1 rfl) ?_
    refine W.widen (k := 0) (n := 0) (Nat.le_of_ble_eq_true rfl) (Nat.le_of_ble_eq_true rfl) ?_
    exact W.iret (v := x4_1) hx hb hr (QR_.mk hS (by rw [hM])) hS.2.2 dX8_sumOfCosts_41
  · rw [if_neg c_2] at hM
    refine lv_iconst (v := 0) hx hb dX8_sumOfCosts_12 (by decide) ?_
    refine lv_istore_n (lv' := [(3, .int 0), (2, .int x4_2), (1, .int x4_1), (0, .ref h_S)]) hx hb dX8_sumOfCosts_13 rfl hl (by decide) rfl (fun ls hl => ?_)
    refine lpW (τ := Int32 × Int32) (fun k t H locs ls c9 s9 => ((x4_2 : Int32).toInt - (t.2 : Int32).toInt).toNat < k ∧ 0 ≤ (t.2 : Int32).toInt ∧ va_P D vwCl [(h_cs, .inl (k_cs, 36, .inl cs)), (h_S, .inr (11, [h_S_0, h_S_1, .ref h_cs, h_S_3, h_S_4, .int n, h_S_6, h_S_7, h_S_8, h_S_9]))] H ∧ va_S A s.heap H locs ∧ lv_has ls 4 [(3, .int t.2), (2, .int x4_2), (1, .int t.1), (0, .ref h_S)] ∧ F_X8_sumOfCosts cs n = (K_X8_sumOfCosts_4 ((K_X8_sumOfCosts_14 x4_2 (L_X8_sumOfCosts_4 cs n k_1) (L_X8_sumOfCosts_14 cs x4_2 k t.1 t.2)))) ∧ c9 = 0 ∧ s9 = 0) (fun t H locs ls c9 s9 h9 => absurd h9.1 (Nat.not_lt_zero _)) (fun k_3 ih t H locs ls c9 s9 hI => ?_) (((x4_2 : Int32).toInt - (0 : Int32).toInt).toNat + 1) (x4_1, 0) ⟨Nat.lt_succ_self _, (show 0 ≤ (0 : Int32).toInt from (by decide +kernel)), hP, hS, (by exact hl), hM, rfl, rfl⟩
    obtain ⟨x14_1, x14_3⟩ := t
    obtain ⟨hk_3, hz_3, hP, hS, hl, hM, hcs, hss⟩ := hI
    replace hcs := hcs.symm
    subst hcs
    replace hss := hss.symm
    subst hss
    have hP : va_P D vwCl [(h_cs, .inl (k_cs, 36, .inl cs)), (h_S, .inr (11, [h_S_0, h_S_1, .ref h_cs, h_S_3, h_S_4, .int n, h_S_6, h_S_7, h_S_8, h_S_9]))] H := hP
    have hl : lv_has ls 4 [(3, .int x14_3), (2, .int x4_2), (1, .int x14_1), (0, .ref h_S)] := hl
    have hz_3 : 0 ≤ (x14_3 : Int32).toInt := hz_3
    have hk_3 : ((x4_2 : Int32).toInt - (x14_3 : Int32).toInt).toNat < k_3 + 1 := hk_3
    have hM : F_X8_sumOfCosts cs n = (K_X8_sumOfCosts_4 ((K_X8_sumOfCosts_14 x4_2 (L_X8_sumOfCosts_4 cs n k_1) ((if x4_2 ≤ x14_3 then (x14_1, x14_3) else ((L_X8_sumOfCosts_14 cs x4_2 k_3) (x14_1 + (F_X8_costBetween cs x4_2 x14_3)) (x14_3 + 1))))))) := hM
    have ih_3 := ih
    refine lv_iload_n hx hb dX8_sumOfCosts_14 rfl (lv_at hl 0 rfl) ?_
    refine lv_iload_n hx hb dX8_sumOfCosts_15 rfl (lv_at hl 1 rfl) ?_
    refine lv_icmp_ge (tgt := 34) hx hb dX8_sumOfCosts_16 (by decide) (fun c_4 => ?_) (fun c_4 => ?_)
    · rw [if_pos c_4] at hM
      have hM : F_X8_sumOfCosts cs n = (K_X8_sumOfCosts_4 (((L_X8_sumOfCosts_4 cs n k_1) x14_1 (x4_2 + 1)))) := hM
      refine lv_iinc (v := (x4_2 + 1)) (lv' := [(2, .int (x4_2 + 1)), (3, .int x14_3), (1, .int x14_1), (0, .ref h_S)]) hx hb dX8_sumOfCosts_34 hl (k := 1) rfl rfl (by decide) rfl (fun ls hl => ?_)
      refine lv_goto (tgt := 4) hx hb dX8_sumOfCosts_37 (by decide) ?_
      exact ih_1 (x14_1, (x4_2 + 1)) _ _ _ _ _ ⟨lp_up hk_1 c_2, lp_up0 hz_1 c_2, hP, hS, lv_sub hl [0, 2, 3] rfl, hM, rfl, rfl⟩
    · rw [if_neg c_4] at hM
      refine lv_iload_n hx hb dX8_sumOfCosts_19 rfl (lv_at hl 2 rfl) ?_
      refine lv_aload_n hx hb dX8_sumOfCosts_20 rfl (lv_at hl 3 rfl) ?_
      refine lv_iload_n hx hb dX8_sumOfCosts_21 rfl (lv_at hl 1 rfl) ?_
      refine lv_iload_n hx hb dX8_sumOfCosts_22 rfl (lv_at hl 0 rfl) ?_
      obtain ⟨y9, hy9⟩ : ∃ y9, (F_X8_costBetween cs x4_2 x14_3) = y9 := ⟨_, rfl⟩
      have hcon := (c_X8_costBetween l hl0 D ad H.size h_cs h_S k_cs (h_S_0) (h_S_1) (h_S_3) (h_S_4) (.int n) (h_S_6) (h_S_7) (h_S_8) (h_S_9) cs x4_2 x14_3)
      rw [hy9] at hcon
      refine kr_ (va_runV (As := [.int x4_2, .int x14_3]) (rest := [.int x14_1]) ⟨hx, hb, hml, hown, hts⟩ hcon (cwV 2 hts gX8_sumOfCosts_X8_costBetween rfl rfl rfl (by decide +kernel) ⟨Nat.le_of_ble_eq_true rfl, Nat.le_of_ble_eq_true rfl⟩) ⟨PR_.blind, va_recv hK hP (ci := 11) (q0 := 1) rfl rfl, PR_.pre hF hK (hP.sub [0, 1] rfl) hS hA [0] rfl⟩ rfl rfl hl.1 rfl (lv_room (Nat.le_of_ble_eq_true rfl)) dX8_sumOfCosts_23 ⟨(Nat.le_of_ble_eq_true rfl), (Nat.le_of_ble_eq_true rfl)⟩) hP hS hA (fun H locs hP hS => ?_)
      subst hy9
      refine W.eq (g2 := F0 m 26 ls [.int (F_X8_costBetween cs x4_2 x14_3), .int x14_1]) rfl ?_
      refine lv_iadd hx hb dX8_sumOfCosts_26 ?_
      refine lv_istore_n (lv' := [(1, .int (x14_1 + (F_X8_costBetween cs x4_2 x14_3))), (3, .int x14_3), (2, .int x4_2), (0, .ref h_S)]) hx hb dX8_sumOfCosts_27 rfl hl (by decide) rfl (fun ls hl => ?_)
      refine lv_iinc (v := (x14_3 + 1)) (lv' := [(3, .int (x14_3 + 1)), (1, .int (x14_1 + (F_X8_costBetween cs x4_2 x14_3))), (2, .int x4_2), (0, .ref h_S)]) hx hb dX8_sumOfCosts_28 hl (k := 1) rfl rfl (by decide) rfl (fun ls hl => ?_)
      refine lv_goto (tgt := 14) hx hb dX8_sumOfCosts_31 (by decide) ?_
      exact ih_3 ((x14_1 + (F_X8_costBetween cs x4_2 x14_3)), (x14_3 + 1)) _ _ _ _ _ ⟨lp_up hk_3 c_4, lp_up0 hz_3 c_4, hP, hS, lv_sub hl [0, 2, 1, 3] rfl, hM, rfl, rfl⟩
