def F_X9_distanceTo (wd : Nat → Int32) (a1 : Int32) : Int32 := (if a1 < 0 then 1000000 else (if 6 ≤ a1 then 1000000 else (wd (ix a1))))
set_option maxHeartbeats 4000000 in
set_option maxRecDepth 100000 in
theorem c_X9_distanceTo (l : Launch) (hl0 : l.stackTraces = false) (D : va_G) (ad : Nat → Nat) (sz : Nat) (h_wd : Nat) (h_W : Nat) (k_wd : ClassId) (h_W_0 : Value) (wd : Nat → Int32) (a1 : Int32) : Met l yX9_distanceTo wsX9_distanceTo ({ frames := 0, cells := 0, slots := 0, locals := 0 }) (PR_ D ad [(h_wd, .inl (k_wd, 6, .inl wd)), (h_W, .inr (12, [h_W_0, .ref h_wd]))] [(k_wd, .int)] sz [.ref h_W, .int a1]) (QR_ (.int (F_X9_distanceTo wd a1)) (va_A [] sz)) 0 0 (va_A [] sz) := by
  refine Met.ofW (cc := cX9_distanceTo) (maxL := 2) (ret := (some .int)) (by decide) rfl ?_
  intro p e s m args below meth c s₁ B hml hv
  obtain ⟨rfl, hsz, hP, hK, hF⟩ := hv
  have hx := B.exec
  have hb := B.bytes
  have hr := B.returns
  have hts := atoms_spec (ws := wsX9_distanceTo) B.pre
  have hown : s.vm.findClass RX9 = some m.cls := findClass_of_methodNamed B.named
  have hlocks := B.notSynchronized
  subst hsz
  generalize hAe : va_A [] s.heap.size = A at hF ⊢
  have hA : ∀ q : Nat, s.heap.size ≤ q → A q := fun q h => by rw [← hAe]; exact Or.inr h
  obtain ⟨H, hHe⟩ : ∃ H : Heap, H = s.heap := ⟨_, rfl⟩
  have hS : va_S A s.heap H [] := by rw [hHe]; exact va_S.rf
  have hP : va_P D vwCl [(h_wd, .inl (k_wd, 6, .inl wd)), (h_W, .inr (12, [h_W_0, .ref h_wd]))] H := by rw [hHe]; exact hP
  rw [← hHe]
  have hi_X9 : ∀ w ∈ wsX90, w ∈ wsX9_distanceTo := by decide +kernel
  have hl := lv_entry [.ref h_W, .int a1] (n := 2) (Nat.le_of_ble_eq_true rfl)
  rw [lg_entry_eq]
  generalize (lg_sl [.ref h_W, .int a1] ++ List.replicate (2 - (lg_sl [.ref h_W, .int a1]).length) Slot.unset).toArray = ls at hl ⊢
  have hl : lv_has ls 2 [(0, .ref h_W), (1, .int a1)] := hl
  have hM : F_X9_distanceTo wd a1 = (if a1 < 0 then 1000000 else (if 6 ≤ a1 then 1000000 else (wd (ix a1)))) := rfl
  refine lv_iload_n hx hb dX9_distanceTo_0 rfl (lv_at hl 1 rfl) ?_
  refine lv_if_lt (tgt := 19) hx hb dX9_distanceTo_1 (by decide) (fun c_1 => ?_) (fun c_1 => ?_)
  · rw [if_pos c_1] at hM
    refine lv_ldc (own := RX9) hx hb hown (hts (.constant RX9 38 (1000000)) (List.mem_of_getElem? (i := 2) (by decide +kernel))) dX9_distanceTo_19 ?_
    refine W.widen (k := 0) (n := 0) (Nat.le_of_ble_eq_true rfl) (Nat.le_of_ble_eq_true rfl) ?_
    exact W.iret (v := 1000000) hx hb hr (QR_.mk hS (by rw [hM])) hS.2.2 dX9_distanceTo_21
  · rw [if_neg c_1] at hM
    refine lv_iload_n hx hb dX9_distanceTo_4 rfl (lv_at hl 1 rfl) ?_
    refine lv_bipush (v := 6) hx hb dX9_distanceTo_5 (by decide) ?_
    refine lv_icmp_ge (tgt := 19) hx hb dX9_distanceTo_7 (by decide) (fun c_2 => ?_) (fun c_2 => ?_)
    · rw [if_pos c_2] at hM
      refine lv_ldc (own := RX9) hx hb hown (hts (.constant RX9 38 (1000000)) (List.mem_of_getElem? (i := 2) (by decide +kernel))) dX9_distanceTo_19 ?_
      refine W.widen (k := 0) (n := 0) (Nat.le_of_ble_eq_true rfl) (Nat.le_of_ble_eq_true rfl) ?_
      exact W.iret (v := 1000000) hx hb hr (QR_.mk hS (by rw [hM])) hS.2.2 dX9_distanceTo_21
    · rw [if_neg c_2] at hM
      refine lv_aload_n hx hb dX9_distanceTo_10 rfl (lv_at hl 0 rfl) ?_
      refine va_get (D := D) (ci := 12) (v := .ref h_wd) (own := RX9) (C := RX9) (T := TX9) (N := 2) hx hb hts hi_X9 hown hK hP 1 rfl rfl 1 (by decide) (hts (.fieldLink RX9 15 "CanalMaps$Ways" "distances" "[I") (List.mem_of_getElem? (i := 1) (by decide +kernel))) (fun _ h9 => h9) rfl dX9_distanceTo_11 ?_
      refine lv_iload_n hx hb dX9_distanceTo_14 rfl (lv_at hl 1 rfl) ?_
      refine va_iald hx hb hK hP 0 0 rfl rfl (vinI (by have y0 := f_nlt c_1; have y1 := f_nle c_2; have e_0 : (0 : Int32).toInt = 0 := (by decide +kernel); have e_6 : (6 : Int32).toInt = 6 := (by decide +kernel); have b4 := Int32.toInt_lt (a1); have d4 := Int32.le_toInt (a1); omega) (by have y0 := f_nlt c_1; have y1 := f_nle c_2; have e_0 : (0 : Int32).toInt = 0 := (by decide +kernel); have e_6 : (6 : Int32).toInt = 6 := (by decide +kernel); have b4 := Int32.toInt_lt (a1); have d4 := Int32.le_toInt (a1); omega)) dX9_distanceTo_15 ?_
      refine kt_ (v := (wd (ix a1))) rfl ?_
      refine lv_goto (tgt := 21) hx hb dX9_distanceTo_16 (by decide) ?_
      refine W.widen (k := 0) (n := 0) (Nat.le_of_ble_eq_true rfl) (Nat.le_of_ble_eq_true rfl) ?_
      exact W.iret (v := (wd (ix a1))) hx hb hr (QR_.mk hS (by rw [hM])) hS.2.2 dX9_distanceTo_21
def F_X9_shorten (wc : Nat → Int32) (wd : Nat → Int32) (a1 : Int32) (a2 : Int32) : Int32 × (Nat → Int32) := (if (wc (ix ((a1 * 6) + a2))) ≤ 0 then (0, wd) else (if (wd (ix a2)) ≤ ((wd (ix a1)) + (wc (ix ((a1 * 6) + a2)))) then (0, wd) else (1, (upd wd (ix a2) ((wd (ix a1)) + (wc (ix ((a1 * 6) + a2))))))))
set_option maxHeartbeats 4000000 in
set_option maxRecDepth 100000 in
theorem c_X9_shorten (l : Launch) (hl0 : l.stackTraces = false) (D : va_G) (ad : Nat → Nat) (sz : Nat) (h_wc : Nat) (h_wd : Nat) (h_W : Nat) (k_wc : ClassId) (k_wd : ClassId) (wc : Nat → Int32) (wd : Nat → Int32) (a1 : Int32) (a2 : Int32) (hy0 : 0 ≤ a1.toInt) (hy1 : a1.toInt < 6) (hy2 : 0 ≤ a2.toInt) (hy3 : a2.toInt < 6) : Met l yX9_shorten wsX9_shorten ({ frames := 0, cells := 0, slots := 0, locals := 0 }) (PC_ D ad [(h_wc, .inl (k_wc, 36, .inl wc)), (h_wd, .inl (k_wd, 6, .inl wd)), (h_W, .inr (12, [.ref h_wc, .ref h_wd]))] [(k_wc, .int), (k_wd, .int)] sz [.ref h_W, .int a1, .int a2]) (QG_ D (fun q i => some (.int (F_X9_shorten wc wd a1 a2).1)) (fun q i => True) (fun q k i => [(h_wc, .inl (k_wc, 36, .inl wc)), (h_wd, .inl (k_wd, 6, .inl (F_X9_shorten wc wd a1 a2).2)), (h_W, .inr (12, [.ref h_wc, .ref h_wd]))]) (fun q k i => [(k_wc, .int), (k_wd, .int)]) (va_A [(h_wc, .inl (k_wc, 36, .inl wc)), (h_wd, .inl (k_wd, 6, .inl wd)), (h_W, .inr (12, [.ref h_wc, .ref h_wd]))] sz)) 0 0 (va_A [(h_wc, .inl (k_wc, 36, .inl wc)), (h_wd, .inl (k_wd, 6, .inl wd)), (h_W, .inr (12, [.ref h_wc, .ref h_wd]))] sz) := by
  refine Met.ofW (cc := cX9_shorten) (maxL := 5) (ret := (some .boolean)) (by decide) rfl ?_
  intro p e s m args below meth c s₁ B hml hv
  obtain ⟨rfl, hsz, hP, hK, hD0, hF⟩ := hv
  have hx := B.exec
  have hb := B.bytes
  have hr := B.returns
  have hts := atoms_spec (ws := wsX9_shorten) B.pre
  have hown : s.vm.findClass RX9 = some m.cls := findClass_of_methodNamed B.named
  have hlocks := B.notSynchronized
  subst hsz
  have hD := hD0.self (sz := s.heap.size)
  generalize hAe : va_A [(h_wc, .inl (k_wc, 36, .inl wc)), (h_wd, .inl (k_wd, 6, .inl wd)), (h_W, .inr (12, [.ref h_wc, .ref h_wd]))] s.heap.size = A at hD hF ⊢
  have hA : ∀ q : Nat, s.heap.size ≤ q → A q := fun q h => by rw [← hAe]; exact Or.inr h
  obtain ⟨H, hHe⟩ : ∃ H : Heap, H = s.heap := ⟨_, rfl⟩
  have hS : va_S A s.heap H [] := by rw [hHe]; exact va_S.rf
  have hP : va_P D vwCl [(h_wc, .inl (k_wc, 36, .inl wc)), (h_wd, .inl (k_wd, 6, .inl wd)), (h_W, .inr (12, [.ref h_wc, .ref h_wd]))] H := by rw [hHe]; exact hP
  rw [← hHe]
  have hi_X9 : ∀ w ∈ wsX90, w ∈ wsX9_shorten := by decide +kernel
  have hl := lv_entry [.ref h_W, .int a1, .int a2] (n := 5) (Nat.le_of_ble_eq_true rfl)
  rw [lg_entry_eq]
  generalize (lg_sl [.ref h_W, .int a1, .int a2] ++ List.replicate (5 - (lg_sl [.ref h_W, .int a1, .int a2]).length) Slot.unset).toArray = ls at hl ⊢
  have hl : lv_has ls 5 [(0, .ref h_W), (1, .int a1), (2, .int a2)] := hl
  have hM : F_X9_shorten wc wd a1 a2 = (if (wc (ix ((a1 * 6) + a2))) ≤ 0 then (0, wd) else (if (wd (ix a2)) ≤ ((wd (ix a1)) + (wc (ix ((a1 * 6) + a2)))) then (0, wd) else (1, (upd wd (ix a2) ((wd (ix a1)) + (wc (ix ((a1 * 6) + a2)))))))) := rfl
  refine lv_aload_n hx hb dX9_shorten_0 rfl (lv_at hl 0 rfl) ?_
  refine va_get (D := D) (ci := 12) (v := .ref h_wc) (own := RX9) (C := RX9) (T := TX9) (N := 2) hx hb hts hi_X9 hown hK hP 2 rfl rfl 0 (by decide) (hts (.fieldLink RX9 9 "CanalMaps$Ways" "costs" "[I") (List.mem_of_getElem? (i := 1) (by decide +kernel))) (fun _ h9 => h9) rfl dX9_shorten_1 ?_
  refine lv_iload_n hx hb dX9_shorten_4 rfl (lv_at hl 1 rfl) ?_
  refine lv_bipush (v := 6) hx hb dX9_shorten_5 (by decide) ?_
  refine lv_imul hx hb dX9_shorten_7 ?_
  refine lv_iload_n hx hb dX9_shorten_8 rfl (lv_at hl 2 rfl) ?_
  refine lv_iadd hx hb dX9_shorten_9 ?_
  refine va_iald hx hb hK hP 0 0 rfl rfl (vinI (by have z0 := hy0; have z1 := hy1; have z2 := hy2; have z3 := hy3; have b43 := Int32.toInt_lt (a1); have d43 := Int32.le_toInt (a1); have b44 := Int32.toInt_lt (a2); have d44 := Int32.le_toInt (a2); have q37 := ix6 (a := a1) (b := a2) (by omega) (by omega) (by omega) (by omega); omega) (by have z0 := hy0; have z1 := hy1; have z2 := hy2; have z3 := hy3; have b43 := Int32.toInt_lt (a1); have d43 := Int32.le_toInt (a1); have b44 := Int32.toInt_lt (a2); have d44 := Int32.le_toInt (a2); have q37 := ix6 (a := a1) (b := a2) (by omega) (by omega) (by omega) (by omega); omega)) dX9_shorten_10 ?_
  refine kt_ (v := (wc (ix ((a1 * 6) + a2)))) rfl ?_
  refine lv_istore_n (lv' := [(3, .int (wc (ix ((a1 * 6) + a2)))), (0, .ref h_W), (1, .int a1), (2, .int a2)]) hx hb dX9_shorten_11 rfl hl (by decide) rfl (fun ls hl => ?_)
  refine lv_iload_n hx hb dX9_shorten_12 rfl (lv_at hl 0 rfl) ?_
  refine lv_if_le (tgt := 37) hx hb dX9_shorten_13 (by decide) (fun c_1 => ?_) (fun c_1 => ?_)
  · rw [if_pos c_1] at hM
    refine lv_iconst (v := 0) hx hb dX9_shorten_37 (by decide) ?_
    refine lv_istore (lv' := [(4, .int 0), (3, .int (wc (ix ((a1 * 6) + a2)))), (0, .ref h_W), (1, .int a1), (2, .int a2)]) hx hb dX9_shorten_38 hl (by decide) rfl (fun ls hl => ?_)
    refine lv_iload hx hb dX9_shorten_40 (lv_at hl 0 rfl) ?_
    refine lv_if_eq (tgt := 59) hx hb dX9_shorten_42 (by decide) (fun _ => ?_) (fun c9 => absurd (by decide +kernel) c9)
    refine lv_iload hx hb dX9_shorten_59 (lv_at hl 0 rfl) ?_
    refine W.widen (k := 0) (n := 0) (Nat.le_of_ble_eq_true rfl) (Nat.le_of_ble_eq_true rfl) ?_
    exact W.zret (v := 0) hx hb hr rfl (QG_.mk (fun _ => 0) (fun _ => 0) (fun _ => 0) [0, 1, 2] [0, 1] hP hD hK hS (by rw [hM]) trivial (by first | (rw [hM]; rfl) | rfl) (by decide) rfl) hS.2.2 dX9_shorten_61
  · rw [if_neg c_1] at hM
    refine lv_aload_n hx hb dX9_shorten_16 rfl (lv_at hl 1 rfl) ?_
    refine va_get (D := D) (ci := 12) (v := .ref h_wd) (own := RX9) (C := RX9) (T := TX9) (N := 2) hx hb hts hi_X9 hown hK hP 2 rfl rfl 1 (by decide) (hts (.fieldLink RX9 15 "CanalMaps$Ways" "distances" "[I") (List.mem_of_getElem? (i := 2) (by decide +kernel))) (fun _ h9 => h9) rfl dX9_shorten_17 ?_
    refine lv_iload_n hx hb dX9_shorten_20 rfl (lv_at hl 2 rfl) ?_
    refine va_iald hx hb hK hP 1 1 rfl rfl (vinI (by have y0 := f_nle c_1; have z0 := hy0; have z1 := hy1; have z2 := hy2; have z3 := hy3; have e_0 : (0 : Int32).toInt = 0 := (by decide +kernel); have b45 := Int32.toInt_lt (a1); have d45 := Int32.le_toInt (a1); have x0 := ix_toNat ((a1 * 6) + a2); omega) (by have y0 := f_nle c_1; have z0 := hy0; have z1 := hy1; have z2 := hy2; have z3 := hy3; have e_0 : (0 : Int32).toInt = 0 := (by decide +kernel); have b45 := Int32.toInt_lt (a1); have d45 := Int32.le_toInt (a1); have x0 := ix_toNat ((a1 * 6) + a2); omega)) dX9_shorten_21 ?_
    refine kt_ (v := (wd (ix a1))) rfl ?_
    refine lv_iload_n hx hb dX9_shorten_22 rfl (lv_at hl 0 rfl) ?_
    refine lv_iadd hx hb dX9_shorten_23 ?_
    refine lv_aload_n hx hb dX9_shorten_24 rfl (lv_at hl 1 rfl) ?_
    refine va_get (D := D) (ci := 12) (v := .ref h_wd) (own := RX9) (C := RX9) (T := TX9) (N := 2) hx hb hts hi_X9 hown hK hP 2 rfl rfl 1 (by decide) (hts (.fieldLink RX9 15 "CanalMaps$Ways" "distances" "[I") (List.mem_of_getElem? (i := 2) (by decide +kernel))) (fun _ h9 => h9) rfl dX9_shorten_25 ?_
    refine lv_iload_n hx hb dX9_shorten_28 rfl (lv_at hl 3 rfl) ?_
    refine va_iald hx hb hK hP 1 1 rfl rfl (vinI (by have y0 := f_nle c_1; have z0 := hy0; have z1 := hy1; have z2 := hy2; have z3 := hy3; have e_0 : (0 : Int32).toInt = 0 := (by decide +kernel); have b46 := Int32.toInt_lt (a2); have d46 := Int32.le_toInt (a2); have x0 := ix_toNat ((a1 * 6) + a2); omega) (by have y0 := f_nle c_1; have z0 := hy0; have z1 := hy1; have z2 := hy2; have z3 := hy3; have e_0 : (0 : Int32).toInt = 0 := (by decide +kernel); have b46 := Int32.toInt_lt (a2); have d46 := Int32.le_toInt (a2); have x0 := ix_toNat ((a1 * 6) + a2); omega)) dX9_shorten_29 ?_
    refine kt_ (v := (wd (ix a2))) rfl ?_
    refine lv_icmp_ge (tgt := 37) hx hb dX9_shorten_30 (by decide) (fun c_2 => ?_) (fun c_2 => ?_)
    · rw [if_pos c_2] at hM
      refine lv_iconst (v := 0) hx hb dX9_shorten_37 (by decide) ?_
      refine lv_istore (lv' := [(4, .int 0), (3, .int (wc (ix ((a1 * 6) + a2)))), (0, .ref h_W), (1, .int a1), (2, .int a2)]) hx hb dX9_shorten_38 hl (by decide) rfl (fun ls hl => ?_)
      refine lv_iload hx hb dX9_shorten_40 (lv_at hl 0 rfl) ?_
      refine lv_if_eq (tgt := 59) hx hb dX9_shorten_42 (by decide) (fun _ => ?_) (fun c9 => absurd (by decide +kernel) c9)
      refine lv_iload hx hb dX9_shorten_59 (lv_at hl 0 rfl) ?_
      refine W.widen (k := 0) (n := 0) (Nat.le_of_ble_eq_true rfl) (Nat.le_of_ble_eq_true rfl) ?_
      exact W.zret (v := 0) hx hb hr rfl (QG_.mk (fun _ => 0) (fun _ => 0) (fun _ => 0) [0, 1, 2] [0, 1] hP hD hK hS (by rw [hM]) trivial (by first | (rw [hM]; rfl) | rfl) (by decide) rfl) hS.2.2 dX9_shorten_61
    · rw [if_neg c_2] at hM
      refine lv_iconst (v := 1) hx hb dX9_shorten_33 (by decide) ?_
      refine lv_goto (tgt := 38) hx hb dX9_shorten_34 (by decide) ?_
      refine lv_istore (lv' := [(4, .int 1), (3, .int (wc (ix ((a1 * 6) + a2)))), (0, .ref h_W), (1, .int a1), (2, .int a2)]) hx hb dX9_shorten_38 hl (by decide) rfl (fun ls hl => ?_)
      refine lv_iload hx hb dX9_shorten_40 (lv_at hl 0 rfl) ?_
      refine lv_if_eq (tgt := 59) hx hb dX9_shorten_42 (by decide) (fun c9 => absurd c9 (by decide +kernel)) (fun _ => ?_)
      refine lv_aload_n hx hb dX9_shorten_45 rfl (lv_at hl 2 rfl) ?_
      refine va_get (D := D) (ci := 12) (v := .ref h_wd) (own := RX9) (C := RX9) (T := TX9) (N := 2) hx hb hts hi_X9 hown hK hP 2 rfl rfl 1 (by decide) (hts (.fieldLink RX9 15 "CanalMaps$Ways" "distances" "[I") (List.mem_of_getElem? (i := 2) (by decide +kernel))) (fun _ h9 => h9) rfl dX9_shorten_46 ?_
      refine lv_iload_n hx hb dX9_shorten_49 rfl (lv_at hl 4 rfl) ?_
      refine lv_aload_n hx hb dX9_shorten_50 rfl (lv_at hl 2 rfl) ?_
      refine va_get (D := D) (ci := 12) (v := .ref h_wd) (own := RX9) (C := RX9) (T := TX9) (N := 2) hx hb hts hi_X9 hown hK hP 2 rfl rfl 1 (by decide) (hts (.fieldLink RX9 15 "CanalMaps$Ways" "distances" "[I") (List.mem_of_getElem? (i := 2) (by decide +kernel))) (fun _ h9 => h9) rfl dX9_shorten_51 ?_
      refine lv_iload_n hx hb dX9_shorten_54 rfl (lv_at hl 3 rfl) ?_
      refine va_iald hx hb hK hP 1 1 rfl rfl (vinI (by have y0 := f_nle c_1; have y1 := f_nle c_2; have z0 := hy0; have z1 := hy1; have z2 := hy2; have z3 := hy3; have e_0 : (0 : Int32).toInt = 0 := (by decide +kernel); have b47 := Int32.toInt_lt (a1); have d47 := Int32.le_toInt (a1); have x0 := ix_toNat ((a1 * 6) + a2); have x1 := ix_toNat a1; have x2 := ix_toNat a2; omega) (by have y0 := f_nle c_1; have y1 := f_nle c_2; have z0 := hy0; have z1 := hy1; have z2 := hy2; have z3 := hy3; have e_0 : (0 : Int32).toInt = 0 := (by decide +kernel); have b47 := Int32.toInt_lt (a1); have d47 := Int32.le_toInt (a1); have x0 := ix_toNat ((a1 * 6) + a2); have x1 := ix_toNat a1; have x2 := ix_toNat a2; omega)) dX9_shorten_55 ?_
      refine kt_ (v := (wd (ix a1))) rfl ?_
      refine lv_iload_n hx hb dX9_shorten_56 rfl (lv_at hl 1 rfl) ?_
      refine lv_iadd hx hb dX9_shorten_57 ?_
      refine ka_iast (g := (upd wd (ix a2) ((wd (ix a1)) + (wc (ix ((a1 * 6) + a2)))))) hx hb hK hP hD hS 1 1 rfl rfl (vinI (by have y0 := f_nle c_1; have y1 := f_nle c_2; have z0 := hy0; have z1 := hy1; have z2 := hy2; have z3 := hy3; have e_0 : (0 : Int32).toInt = 0 := (by decide +kernel); have b48 := Int32.toInt_lt (a2); have d48 := Int32.le_toInt (a2); have x0 := ix_toNat ((a1 * 6) + a2); have x1 := ix_toNat a1; have x2 := ix_toNat a2; omega) (by have y0 := f_nle c_1; have y1 := f_nle c_2; have z0 := hy0; have z1 := hy1; have z2 := hy2; have z3 := hy3; have e_0 : (0 : Int32).toInt = 0 := (by decide +kernel); have b48 := Int32.toInt_lt (a2); have d48 := Int32.le_toInt (a2); have x0 := ix_toNat ((a1 * 6) + a2); have x1 := ix_toNat a1; have x2 := ix_toNat a2; omega)) rfl dX9_shorten_58 (fun H locs hP hD hS => ?_)
      have hP : va_P D vwCl [(h_wc, .inl (k_wc, 36, .inl wc)), (h_wd, .inl (k_wd, 6, .inl (upd wd (ix a2) ((wd (ix a1)) + (wc (ix ((a1 * 6) + a2))))))), (h_W, .inr (12, [.ref h_wc, .ref h_wd]))] H := hP
      have hD : va_D A [(h_wc, .inl (k_wc, 36, .inl wc)), (h_wd, .inl (k_wd, 6, .inl (upd wd (ix a2) ((wd (ix a1)) + (wc (ix ((a1 * 6) + a2))))))), (h_W, .inr (12, [.ref h_wc, .ref h_wd]))] := hD
      refine lv_iload hx hb dX9_shorten_59 (lv_at hl 0 rfl) ?_
      refine W.widen (k := 0) (n := 0) (Nat.le_of_ble_eq_true rfl) (Nat.le_of_ble_eq_true rfl) ?_
      exact W.zret (v := 1) hx hb hr rfl (QG_.mk (fun _ => 0) (fun _ => 0) (fun _ => 0) [0, 1, 2] [0, 1] hP hD hK hS (by rw [hM]) trivial (by first | (rw [hM]; rfl) | rfl) (by decide) rfl) hS.2.2 dX9_shorten_61
def B_X9_nearestOf_8 (wd : Nat → Int32) (a1 : Int32) (rc_8 : Int32 → Int32 → Int32 → (Int32 × Int32 × Int32)) (x8_2 : Int32) (x8_3 : Int32) (x8_4 : Int32) : Int32 × Int32 × Int32 := (if 6 ≤ x8_4 then (x8_2, x8_3, x8_4) else (if (a1 &&& (1 <<< (x8_4 &&& 31))) = 0 then (rc_8 x8_2 x8_3 (x8_4 + 1)) else (if x8_3 ≤ (wd (ix x8_4)) then (rc_8 x8_2 x8_3 (x8_4 + 1)) else (rc_8 x8_4 (wd (ix x8_4)) (x8_4 + 1)))))
def L_X9_nearestOf_8 (wd : Nat → Int32) (a1 : Int32) : Nat → Int32 → Int32 → Int32 → (Int32 × Int32 × Int32)
  | 0 => fun x8_2 x8_3 x8_4 => (x8_2, x8_3, x8_4)
  | k + 1 => B_X9_nearestOf_8 wd a1 (L_X9_nearestOf_8 wd a1 k)
def K_X9_nearestOf_8  : (Int32 × Int32 × Int32) → (Int32)
  | (x8_2, x8_3, x8_4) => x8_2
def F_X9_nearestOf (wd : Nat → Int32) (a1 : Int32) : Int32 := (K_X9_nearestOf_8 (L_X9_nearestOf_8 wd a1 (((6 : Int32).toInt - (0 : Int32).toInt).toNat + 1) (-1) 1000000 0))
theorem R_X9_nearestOf {wd : Nat → Int32} {a : Int32} (h : ¬ F_X9_nearestOf wd a = -1) : 0 ≤ (F_X9_nearestOf wd a).toInt ∧ (F_X9_nearestOf wd a).toInt < 6 := by
  have key : ∀ (k : Nat) (x y z : Int32), (x = -1 ∨ (0 ≤ x.toInt ∧ x.toInt < 6)) → 0 ≤ z.toInt → ((L_X9_nearestOf_8 wd a k x y z).1 = -1 ∨ (0 ≤ (L_X9_nearestOf_8 wd a k x y z).1.toInt ∧ (L_X9_nearestOf_8 wd a k x y z).1.toInt < 6)) := by
    have e6 : (6 : Int32).toInt = 6 := by decide +kernel
    intro k
    induction k with
    | zero => intro x y z h1 _; exact h1
    | succ k ih =>
      intro x y z h1 hz
      show ((B_X9_nearestOf_8 wd a (L_X9_nearestOf_8 wd a k) x y z).1 = -1 ∨ (0 ≤ (B_X9_nearestOf_8 wd a (L_X9_nearestOf_8 wd a k) x y z).1.toInt ∧ (B_X9_nearestOf_8 wd a (L_X9_nearestOf_8 wd a k) x y z).1.toInt < 6))
      unfold B_X9_nearestOf_8
      by_cases c1 : 6 ≤ z
      · rw [if_pos c1]; exact h1
      have y1 := f_nle c1
      have y2 := incI (x := z) (n := 6) y1
      rw [if_neg c1]
      by_cases c2 : (a &&& (1 <<< (z &&& 31))) = 0
      · rw [if_pos c2]; exact ih _ _ _ h1 (by omega)
      rw [if_neg c2]
      by_cases c3 : y ≤ wd (ix z)
      · rw [if_pos c3]; exact ih _ _ _ h1 (by omega)
      rw [if_neg c3]
      exact ih _ _ _ (Or.inr ⟨hz, by omega⟩) (by omega)
  have e := key (((6 : Int32).toInt - (0 : Int32).toInt).toNat + 1) (-1) 1000000 0 (Or.inl rfl) (by decide +kernel)
  unfold F_X9_nearestOf at h ⊢
  revert e h
  generalize L_X9_nearestOf_8 wd a (((6 : Int32).toInt - (0 : Int32).toInt).toNat + 1) (-1) 1000000 0 = t
  intro h e
  obtain ⟨x, y, z⟩ := t
  exact e.resolve_left h
set_option maxHeartbeats 4000000 in
set_option maxRecDepth 100000 in
theorem c_X9_nearestOf (l : Launch) (hl0 : l.stackTraces = false) (D : va_G) (ad : Nat → Nat) (sz : Nat) (h_wd : Nat) (h_W : Nat) (k_wd : ClassId) (h_W_0 : Value) (wd : Nat → Int32) (a1 : Int32) : Met l yX9_nearestOf wsX9_nearestOf ({ frames := 0, cells := 0, slots := 0, locals := 0 }) (PR_ D ad [(h_wd, .inl (k_wd, 6, .inl wd)), (h_W, .inr (12, [h_W_0, .ref h_wd]))] [(k_wd, .int)] sz [.ref h_W, .int a1]) (QR_ (.int (F_X9_nearestOf wd a1)) (va_A [] sz)) 0 0 (va_A [] sz) := by
  refine Met.ofW (cc := cX9_nearestOf) (maxL := 5) (ret := (some .int)) (by decide) rfl ?_
  intro p e s m args below meth c s₁ B hml hv
  obtain ⟨rfl, hsz, hP, hK, hF⟩ := hv
  have hx := B.exec
  have hb := B.bytes
  have hr := B.returns
  have hts := atoms_spec (ws := wsX9_nearestOf) B.pre
  have hown : s.vm.findClass RX9 = some m.cls := findClass_of_methodNamed B.named
  have hlocks := B.notSynchronized
  subst hsz
  generalize hAe : va_A [] s.heap.size = A at hF ⊢
  have hA : ∀ q : Nat, s.heap.size ≤ q → A q := fun q h => by rw [← hAe]; exact Or.inr h
  obtain ⟨H, hHe⟩ : ∃ H : Heap, H = s.heap := ⟨_, rfl⟩
  have hS : va_S A s.heap H [] := by rw [hHe]; exact va_S.rf
  have hP : va_P D vwCl [(h_wd, .inl (k_wd, 6, .inl wd)), (h_W, .inr (12, [h_W_0, .ref h_wd]))] H := by rw [hHe]; exact hP
  rw [← hHe]
  have hi_X9 : ∀ w ∈ wsX90, w ∈ wsX9_nearestOf := by decide +kernel
  have hl := lv_entry [.ref h_W, .int a1] (n := 5) (Nat.le_of_ble_eq_true rfl)
  rw [lg_entry_eq]
  generalize (lg_sl [.ref h_W, .int a1] ++ List.replicate (5 - (lg_sl [.ref h_W, .int a1]).length) Slot.unset).toArray = ls at hl ⊢
  have hl : lv_has ls 5 [(0, .ref h_W), (1, .int a1)] := hl
  have hM : F_X9_nearestOf wd a1 = (K_X9_nearestOf_8 (L_X9_nearestOf_8 wd a1 (((6 : Int32).toInt - (0 : Int32).toInt).toNat + 1) (-1) 1000000 0)) := rfl
  refine lv_iconst (v := (-1)) hx hb dX9_nearestOf_0 (by decide) ?_
  refine lv_istore_n (lv' := [(2, .int (-1)), (0, .ref h_W), (1, .int a1)]) hx hb dX9_nearestOf_1 rfl hl (by decide) rfl (fun ls hl => ?_)
  refine lv_ldc (own := RX9) hx hb hown (hts (.constant RX9 38 (1000000)) (List.mem_of_getElem? (i := 1) (by decide +kernel))) dX9_nearestOf_2 ?_
  refine lv_istore_n (lv' := [(3, .int 1000000), (2, .int (-1)), (0, .ref h_W), (1, .int a1)]) hx hb dX9_nearestOf_4 rfl hl (by decide) rfl (fun ls hl => ?_)
  refine lv_iconst (v := 0) hx hb dX9_nearestOf_5 (by decide) ?_
  refine lv_istore (lv' := [(4, .int 0), (3, .int 1000000), (2, .int (-1)), (0, .ref h_W), (1, .int a1)]) hx hb dX9_nearestOf_6 hl (by decide) rfl (fun ls hl => ?_)
  refine lpW (τ := Int32 × Int32 × Int32) (fun k t H locs ls c9 s9 => ((6 : Int32).toInt - (t.2.2 : Int32).toInt).toNat < k ∧ 0 ≤ (t.2.2 : Int32).toInt ∧ va_P D vwCl [(h_wd, .inl (k_wd, 6, .inl wd)), (h_W, .inr (12, [h_W_0, .ref h_wd]))] H ∧ va_S A s.heap H locs ∧ lv_has ls 5 [(4, .int t.2.2), (3, .int t.2.1), (2, .int t.1), (0, .ref h_W), (1, .int a1)] ∧ F_X9_nearestOf wd a1 = (K_X9_nearestOf_8 (L_X9_nearestOf_8 wd a1 k t.1 t.2.1 t.2.2)) ∧ c9 = 0 ∧ s9 = 0) (fun t H locs ls c9 s9 h9 => absurd h9.1 (Nat.not_lt_zero _)) (fun k_1 ih t H locs ls c9 s9 hI => ?_) (((6 : Int32).toInt - (0 : Int32).toInt).toNat + 1) ((-1), 1000000, 0) ⟨Nat.lt_succ_self _, (show 0 ≤ (0 : Int32).toInt from (by decide +kernel)), hP, hS, (by exact hl), hM, rfl, rfl⟩
  obtain ⟨x8_2, x8_3, x8_4⟩ := t
  obtain ⟨hk_1, hz_1, hP, hS, hl, hM, hcs, hss⟩ := hI
  replace hcs := hcs.symm
  subst hcs
  replace hss := hss.symm
  subst hss
  have hP : va_P D vwCl [(h_wd, .inl (k_wd, 6, .inl wd)), (h_W, .inr (12, [h_W_0, .ref h_wd]))] H := hP
  have hl : lv_has ls 5 [(4, .int x8_4), (3, .int x8_3), (2, .int x8_2), (0, .ref h_W), (1, .int a1)] := hl
  have hz_1 : 0 ≤ (x8_4 : Int32).toInt := hz_1
  have hk_1 : ((6 : Int32).toInt - (x8_4 : Int32).toInt).toNat < k_1 + 1 := hk_1
  have hM : F_X9_nearestOf wd a1 = (K_X9_nearestOf_8 ((if 6 ≤ x8_4 then (x8_2, x8_3, x8_4) else (if (a1 &&& (1 <<< (x8_4 &&& 31))) = 0 then ((L_X9_nearestOf_8 wd a1 k_1) x8_2 x8_3 (x8_4 + 1)) else (if x8_3 ≤ (wd (ix x8_4)) then ((L_X9_nearestOf_8 wd a1 k_1) x8_2 x8_3 (x8_4 + 1)) else ((L_X9_nearestOf_8 wd a1 k_1) x8_4 (wd (ix x8_4)) (x8_4 + 1))))))) := hM
  have ih_1 := ih
  refine lv_iload hx hb dX9_nearestOf_8 (lv_at hl 0 rfl) ?_
  refine lv_bipush (v := 6) hx hb dX9_nearestOf_10 (by decide) ?_
  refine lv_icmp_ge (tgt := 52) hx hb dX9_nearestOf_12 (by decide) (fun c_2 => ?_) (fun c_2 => ?_)
  · rw [if_pos c_2] at hM
    have hM : F_X9_nearestOf wd a1 = x8_2 := hM
    refine lv_iload_n hx hb dX9_nearestOf_52 rfl (lv_at hl 2 rfl) ?_
    refine W.widen (k := 0) (n := 0) (Nat.le_of_ble_eq_true rfl) (Nat.le_of_ble_eq_true rfl) ?_
    exact W.iret (v := x8_2) hx hb hr (QR_.mk hS (by rw [hM])) hS.2.2 dX9_nearestOf_53
  · rw [if_neg c_2] at hM
    refine lv_iload_n hx hb dX9_nearestOf_15 rfl (lv_at hl 4 rfl) ?_
    refine lv_iconst (v := 1) hx hb dX9_nearestOf_16 (by decide) ?_
    refine lv_iload hx hb dX9_nearestOf_17 (lv_at hl 0 rfl) ?_
    refine lv_ishl hx hb dX9_nearestOf_19 ?_
    refine lv_iand hx hb dX9_nearestOf_20 ?_
    refine lv_if_eq (tgt := 46) hx hb dX9_nearestOf_21 (by decide) (fun c_3 => ?_) (fun c_3 => ?_)
    · rw [if_pos c_3] at hM
      refine lv_iinc (v := (x8_4 + 1)) (lv' := [(4, .int (x8_4 + 1)), (3, .int x8_3), (2, .int x8_2), (0, .ref h_W), (1, .int a1)]) hx hb dX9_nearestOf_46 hl (k := 0) rfl rfl (by decide) rfl (fun ls hl => ?_)
      refine lv_goto (tgt := 8) hx hb dX9_nearestOf_49 (by decide) ?_
      exact ih_1 (x8_2, x8_3, (x8_4 + 1)) _ _ _ _ _ ⟨lp_up hk_1 c_2, lp_up0 hz_1 c_2, hP, hS, lv_sub hl [0, 1, 2, 3, 4] rfl, hM, rfl, rfl⟩
    · rw [if_neg c_3] at hM
      refine lv_aload_n hx hb dX9_nearestOf_24 rfl (lv_at hl 3 rfl) ?_
      refine va_get (D := D) (ci := 12) (v := .ref h_wd) (own := RX9) (C := RX9) (T := TX9) (N := 2) hx hb hts hi_X9 hown hK hP 1 rfl rfl 1 (by decide) (hts (.fieldLink RX9 15 "CanalMaps$Ways" "distances" "[I") (List.mem_of_getElem? (i := 2) (by decide +kernel))) (fun _ h9 => h9) rfl dX9_nearestOf_25 ?_
      refine lv_iload hx hb dX9_nearestOf_28 (lv_at hl 0 rfl) ?_
      refine va_iald hx hb hK hP 0 0 rfl rfl (vinI (by have y0 := f_nle c_2; have y1 := f_neq c_3; have z0 := hz_1; have e_0 : (0 : Int32).toInt = 0 := (by decide +kernel); have e_6 : (6 : Int32).toInt = 6 := (by decide +kernel); have b17 := Int32.toInt_lt (x8_4); have d17 := Int32.le_toInt (x8_4); omega) (by have y0 := f_nle c_2; have y1 := f_neq c_3; have z0 := hz_1; have e_0 : (0 : Int32).toInt = 0 := (by decide +kernel); have e_6 : (6 : Int32).toInt = 6 := (by decide +kernel); have b17 := Int32.toInt_lt (x8_4); have d17 := Int32.le_toInt (x8_4); omega)) dX9_nearestOf_30 ?_
      refine kt_ (v := (wd (ix x8_4))) rfl ?_
      refine lv_iload_n hx hb dX9_nearestOf_31 rfl (lv_at hl 1 rfl) ?_
      refine lv_icmp_ge (tgt := 46) hx hb dX9_nearestOf_32 (by decide) (fun c_4 => ?_) (fun c_4 => ?_)
      · rw [if_pos c_4] at hM
        refine lv_iinc (v := (x8_4 + 1)) (lv' := [(4, .int (x8_4 + 1)), (3, .int x8_3), (2, .int x8_2), (0, .ref h_W), (1, .int a1)]) hx hb dX9_nearestOf_46 hl (k := 0) rfl rfl (by decide) rfl (fun ls hl => ?_)
        refine lv_goto (tgt := 8) hx hb dX9_nearestOf_49 (by decide) ?_
        exact ih_1 (x8_2, x8_3, (x8_4 + 1)) _ _ _ _ _ ⟨lp_up hk_1 c_2, lp_up0 hz_1 c_2, hP, hS, lv_sub hl [0, 1, 2, 3, 4] rfl, hM, rfl, rfl⟩
      · rw [if_neg c_4] at hM
        refine lv_iload hx hb dX9_nearestOf_35 (lv_at hl 0 rfl) ?_
        refine lv_istore_n (lv' := [(2, .int x8_4), (4, .int x8_4), (3, .int x8_3), (0, .ref h_W), (1, .int a1)]) hx hb dX9_nearestOf_37 rfl hl (by decide) rfl (fun ls hl => ?_)
        refine lv_aload_n hx hb dX9_nearestOf_38 rfl (lv_at hl 3 rfl) ?_
        refine va_get (D := D) (ci := 12) (v := .ref h_wd) (own := RX9) (C := RX9) (T := TX9) (N := 2) hx hb hts hi_X9 hown hK hP 1 rfl rfl 1 (by decide) (hts (.fieldLink RX9 15 "CanalMaps$Ways" "distances" "[I") (List.mem_of_getElem? (i := 2) (by decide +kernel))) (fun _ h9 => h9) rfl dX9_nearestOf_39 ?_
        refine lv_iload hx hb dX9_nearestOf_42 (lv_at hl 1 rfl) ?_
        refine va_iald hx hb hK hP 0 0 rfl rfl (vinI (by have y0 := f_nle c_2; have y1 := f_neq c_3; have y2 := f_nle c_4; have z0 := hz_1; have e_0 : (0 : Int32).toInt = 0 := (by decide +kernel); have e_6 : (6 : Int32).toInt = 6 := (by decide +kernel); have b18 := Int32.toInt_lt (x8_4); have d18 := Int32.le_toInt (x8_4); have x0 := ix_toNat x8_4; omega) (by have y0 := f_nle c_2; have y1 := f_neq c_3; have y2 := f_nle c_4; have z0 := hz_1; have e_0 : (0 : Int32).toInt = 0 := (by decide +kernel); have e_6 : (6 : Int32).toInt = 6 := (by decide +kernel); have b18 := Int32.toInt_lt (x8_4); have d18 := Int32.le_toInt (x8_4); have x0 := ix_toNat x8_4; omega)) dX9_nearestOf_44 ?_
        refine kt_ (v := (wd (ix x8_4))) rfl ?_
        refine lv_istore_n (lv' := [(3, .int (wd (ix x8_4))), (2, .int x8_4), (4, .int x8_4), (0, .ref h_W), (1, .int a1)]) hx hb dX9_nearestOf_45 rfl hl (by decide) rfl (fun ls hl => ?_)
        refine lv_iinc (v := (x8_4 + 1)) (lv' := [(4, .int (x8_4 + 1)), (3, .int (wd (ix x8_4))), (2, .int x8_4), (0, .ref h_W), (1, .int a1)]) hx hb dX9_nearestOf_46 hl (k := 2) rfl rfl (by decide) rfl (fun ls hl => ?_)
        refine lv_goto (tgt := 8) hx hb dX9_nearestOf_49 (by decide) ?_
        exact ih_1 (x8_4, (wd (ix x8_4)), (x8_4 + 1)) _ _ _ _ _ ⟨lp_up hk_1 c_2, lp_up0 hz_1 c_2, hP, hS, lv_sub hl [0, 1, 2, 3, 4] rfl, hM, rfl, rfl⟩
def B_J7_fill_53178_5 (len1 : Nat) (a2 : Int32) (rc_5 : Int32 → (Nat → Int32) → (Int32 × (Nat → Int32))) (x5_2 : Int32) (x5_h_ar1 : Nat → Int32) : Int32 × (Nat → Int32) := (if (nI len1) ≤ x5_2 then (x5_2, x5_h_ar1) else (rc_5 (x5_2 + 1) (upd x5_h_ar1 (ix x5_2) a2)))
def L_J7_fill_53178_5 (len1 : Nat) (a2 : Int32) : Nat → Int32 → (Nat → Int32) → (Int32 × (Nat → Int32))
  | 0 => fun x5_2 x5_h_ar1 => (x5_2, x5_h_ar1)
  | k + 1 => B_J7_fill_53178_5 len1 a2 (L_J7_fill_53178_5 len1 a2 k)
def K_J7_fill_53178_5  : (Int32 × (Nat → Int32)) → ((Nat → Int32))
  | (x5_2, x5_h_ar1) => x5_h_ar1
def F_J7_fill_53178 (ar1 : Nat → Int32) (len1 : Nat) (a2 : Int32) : (Nat → Int32) := (K_J7_fill_53178_5 (L_J7_fill_53178_5 len1 a2 ((((nI len1) : Int32).toInt - (0 : Int32).toInt).toNat + 1) 0 ar1))
set_option maxHeartbeats 4000000 in
set_option maxRecDepth 100000 in
theorem c_J7_fill_53178 (l : Launch) (hl0 : l.stackTraces = false) (D : va_G) (ad : Nat → Nat) (sz : Nat) (h_ar1 : Nat) (k_ar1 : ClassId) (len1 : Nat) (ar1 : Nat → Int32) (a2 : Int32) (hy0 : len1 ≤ 1000000) : Met l yJ7_fill_53178 wsJ7_fill_53178 ({ frames := 0, cells := 0, slots := 0, locals := 0 }) (PC_ D ad [(h_ar1, .inl (k_ar1, len1, .inl ar1))] [(k_ar1, .int)] sz [.ref h_ar1, .int a2]) (QG_ D (fun q i => none) (fun q i => True) (fun q k i => [(h_ar1, .inl (k_ar1, len1, .inl (F_J7_fill_53178 ar1 len1 a2)))]) (fun q k i => [(k_ar1, .int)]) (va_A [(h_ar1, .inl (k_ar1, len1, .inl ar1))] sz)) 0 0 (va_A [(h_ar1, .inl (k_ar1, len1, .inl ar1))] sz) := by
  refine Met.ofW (cc := cJ7_fill_53178) (maxL := 4) (ret := none) (by decide) rfl ?_
  intro p e s m args below meth c s₁ B hml hv
  obtain ⟨rfl, hsz, hP, hK, hD0, hF⟩ := hv
  have hx := B.exec
  have hb := B.bytes
  have hr := B.returns
  have hts := atoms_spec (ws := wsJ7_fill_53178) B.pre
  have hown : s.vm.findClass RJ7 = some m.cls := findClass_of_methodNamed B.named
  have hlocks := B.notSynchronized
  subst hsz
  have hD := hD0.self (sz := s.heap.size)
  generalize hAe : va_A [(h_ar1, .inl (k_ar1, len1, .inl ar1))] s.heap.size = A at hD hF ⊢
  have hA : ∀ q : Nat, s.heap.size ≤ q → A q := fun q h => by rw [← hAe]; exact Or.inr h
  obtain ⟨H, hHe⟩ : ∃ H : Heap, H = s.heap := ⟨_, rfl⟩
  have hS : va_S A s.heap H [] := by rw [hHe]; exact va_S.rf
  have hP : va_P D vwCl [(h_ar1, .inl (k_ar1, len1, .inl ar1))] H := by rw [hHe]; exact hP
  rw [← hHe]
  have hl := lv_entry [.ref h_ar1, .int a2] (n := 4) (Nat.le_of_ble_eq_true rfl)
  rw [lg_entry_eq]
  generalize (lg_sl [.ref h_ar1, .int a2] ++ List.replicate (4 - (lg_sl [.ref h_ar1, .int a2]).length) Slot.unset).toArray = ls at hl ⊢
  have hl : lv_has ls 4 [(0, .ref h_ar1), (1, .int a2)] := hl
  have hM : F_J7_fill_53178 ar1 len1 a2 = (K_J7_fill_53178_5 (L_J7_fill_53178_5 len1 a2 ((((nI len1) : Int32).toInt - (0 : Int32).toInt).toNat + 1) 0 ar1)) := rfl
  refine lv_iconst (v := 0) hx hb dJ7_fill_53178_0 (by decide) ?_
  refine lv_istore_n (lv' := [(2, .int 0), (0, .ref h_ar1), (1, .int a2)]) hx hb dJ7_fill_53178_1 rfl hl (by decide) rfl (fun ls hl => ?_)
  refine lv_aload_n hx hb dJ7_fill_53178_2 rfl (lv_at hl 1 rfl) ?_
  refine va_alen (v := (nI len1)) hx hb hK hP 0 0 rfl rfl rfl dJ7_fill_53178_3 ?_
  refine lv_istore_n (lv' := [(3, .int (nI len1)), (2, .int 0), (0, .ref h_ar1), (1, .int a2)]) hx hb dJ7_fill_53178_4 rfl hl (by decide) rfl (fun ls hl => ?_)
  refine lpW (τ := Int32 × (Nat → Int32)) (fun k t H locs ls c9 s9 => (((nI len1) : Int32).toInt - (t.1 : Int32).toInt).toNat < k ∧ 0 ≤ (t.1 : Int32).toInt ∧ va_P D vwCl [(h_ar1, .inl (k_ar1, len1, .inl t.2))] H ∧ va_D A [(h_ar1, .inl (k_ar1, len1, .inl t.2))] ∧ va_S A s.heap H locs ∧ lv_has ls 4 [(3, .int (nI len1)), (2, .int t.1), (0, .ref h_ar1), (1, .int a2)] ∧ F_J7_fill_53178 ar1 len1 a2 = (K_J7_fill_53178_5 (L_J7_fill_53178_5 len1 a2 k t.1 t.2)) ∧ c9 = 0 ∧ s9 = 0) (fun t H locs ls c9 s9 h9 => absurd h9.1 (Nat.not_lt_zero _)) (fun k_1 ih t H locs ls c9 s9 hI => ?_) ((((nI len1) : Int32).toInt - (0 : Int32).toInt).toNat + 1) (0, ar1) ⟨Nat.lt_succ_self _, (show 0 ≤ (0 : Int32).toInt from (by decide +kernel)), hP, hD, hS, (by exact hl), hM, rfl, rfl⟩
  obtain ⟨x5_2, x5_h_ar1⟩ := t
  obtain ⟨hk_1, hz_1, hP, hD, hS, hl, hM, hcs, hss⟩ := hI
  replace hcs := hcs.symm
  subst hcs
  replace hss := hss.symm
  subst hss
  have hP : va_P D vwCl [(h_ar1, .inl (k_ar1, len1, .inl x5_h_ar1))] H := hP
  have hD : va_D A [(h_ar1, .inl (k_ar1, len1, .inl x5_h_ar1))] := hD
  have hl : lv_has ls 4 [(3, .int (nI len1)), (2, .int x5_2), (0, .ref h_ar1), (1, .int a2)] := hl
  have hz_1 : 0 ≤ (x5_2 : Int32).toInt := hz_1
  have hk_1 : (((nI len1) : Int32).toInt - (x5_2 : Int32).toInt).toNat < k_1 + 1 := hk_1
  have hM : F_J7_fill_53178 ar1 len1 a2 = (K_J7_fill_53178_5 ((if (nI len1) ≤ x5_2 then (x5_2, x5_h_ar1) else ((L_J7_fill_53178_5 len1 a2 k_1) (x5_2 + 1) (upd x5_h_ar1 (ix x5_2) a2))))) := hM
  have ih_1 := ih
  refine lv_iload_n hx hb dJ7_fill_53178_5 rfl (lv_at hl 1 rfl) ?_
  refine lv_iload_n hx hb dJ7_fill_53178_6 rfl (lv_at hl 0 rfl) ?_
  refine lv_icmp_ge (tgt := 20) hx hb dJ7_fill_53178_7 (by decide) (fun c_2 => ?_) (fun c_2 => ?_)
  · rw [if_pos c_2] at hM
    have hM : F_J7_fill_53178 ar1 len1 a2 = x5_h_ar1 := hM
    refine W.widen (k := 0) (n := 0) (Nat.le_of_ble_eq_true rfl) (Nat.le_of_ble_eq_true rfl) ?_
    exact W.vret hx hb hr (QG_.mk (fun _ => 0) (fun _ => 0) (fun _ => 0) [0] [0] hP hD hK hS rfl trivial (by first | (rw [hM]; rfl) | rfl) (by decide) rfl) hS.2.2 dJ7_fill_53178_20
  · rw [if_neg c_2] at hM
    refine lv_aload_n hx hb dJ7_fill_53178_10 rfl (lv_at hl 2 rfl) ?_
    refine lv_iload_n hx hb dJ7_fill_53178_11 rfl (lv_at hl 1 rfl) ?_
    refine lv_iload_n hx hb dJ7_fill_53178_12 rfl (lv_at hl 3 rfl) ?_
    refine ka_iast (g := (upd x5_h_ar1 (ix x5_2) a2)) hx hb hK hP hD hS 0 0 rfl rfl (vinI (by have y0 := f_nle c_2; have z0 := hy0; have z1 := hz_1; have b13 := Int32.toInt_lt (x5_2); have d13 := Int32.le_toInt (x5_2); have w0 := nI_toInt (n := len1) (by omega); omega) (by have y0 := f_nle c_2; have z0 := hy0; have z1 := hz_1; have b13 := Int32.toInt_lt (x5_2); have d13 := Int32.le_toInt (x5_2); have w0 := nI_toInt (n := len1) (by omega); omega)) rfl dJ7_fill_53178_13 (fun H locs hP hD hS => ?_)
    have hP : va_P D vwCl [(h_ar1, .inl (k_ar1, len1, .inl (upd x5_h_ar1 (ix x5_2) a2)))] H := hP
    have hD : va_D A [(h_ar1, .inl (k_ar1, len1, .inl (upd x5_h_ar1 (ix x5_2) a2)))] := hD
    refine lv_iinc (v := (x5_2 + 1)) (lv' := [(2, .int (x5_2 + 1)), (3, .int (nI len1)), (0, .ref h_ar1), (1, .int a2)]) hx hb dJ7_fill_53178_14 hl (k := 1) rfl rfl (by decide) rfl (fun ls hl => ?_)
    refine lv_goto (tgt := 5) hx hb dJ7_fill_53178_17 (by decide) ?_
    exact ih_1 ((x5_2 + 1), (upd x5_h_ar1 (ix x5_2) a2)) _ _ _ _ _ ⟨lp_up hk_1 c_2, lp_up0 hz_1 c_2, hP, hD, hS, lv_sub hl [1, 0, 2, 3] rfl, hM, rfl, rfl⟩
def F_X9_begin (wd : Nat → Int32) (a1 : Int32) : (Nat → Int32) := (if a1 < 0 then (F_J7_fill_53178 wd 6 1000000) else (if 6 ≤ a1 then (F_J7_fill_53178 wd 6 1000000) else (upd (F_J7_fill_53178 wd 6 1000000) (ix a1) 0)))
set_option maxHeartbeats 4000000 in
set_option maxRecDepth 100000 in
theorem c_X9_begin (l : Launch) (hl0 : l.stackTraces = false) (D : va_G) (ad : Nat → Nat) (sz : Nat) (h_wd : Nat) (h_W : Nat) (k_wd : ClassId) (h_W_0 : Value) (wd : Nat → Int32) (a1 : Int32) : Met l yX9_begin wsX9_begin ({ frames := 1, cells := 0, slots := 0, locals := 25 }) (PC_ D ad [(h_wd, .inl (k_wd, 6, .inl wd)), (h_W, .inr (12, [h_W_0, .ref h_wd]))] [(k_wd, .int)] sz [.ref h_W, .int a1]) (QG_ D (fun q i => none) (fun q i => True) (fun q k i => [(h_wd, .inl (k_wd, 6, .inl (F_X9_begin wd a1))), (h_W, .inr (12, [h_W_0, .ref h_wd]))]) (fun q k i => [(k_wd, .int)]) (va_A [(h_wd, .inl (k_wd, 6, .inl wd)), (h_W, .inr (12, [h_W_0, .ref h_wd]))] sz)) 0 0 (va_A [(h_wd, .inl (k_wd, 6, .inl wd)), (h_W, .inr (12, [h_W_0, .ref h_wd]))] sz) := by
  refine Met.ofW (cc := cX9_begin) (maxL := 2) (ret := none) (by decide) rfl ?_
  intro p e s m args below meth c s₁ B hml hv
  obtain ⟨rfl, hsz, hP, hK, hD0, hF⟩ := hv
  have hx := B.exec
  have hb := B.bytes
  have hr := B.returns
  have hts := atoms_spec (ws := wsX9_begin) B.pre
  have hown : s.vm.findClass RX9 = some m.cls := findClass_of_methodNamed B.named
  have hlocks := B.notSynchronized
  subst hsz
  have hD := hD0.self (sz := s.heap.size)
  generalize hAe : va_A [(h_wd, .inl (k_wd, 6, .inl wd)), (h_W, .inr (12, [h_W_0, .ref h_wd]))] s.heap.size = A at hD hF ⊢
  have hA : ∀ q : Nat, s.heap.size ≤ q → A q := fun q h => by rw [← hAe]; exact Or.inr h
  obtain ⟨H, hHe⟩ : ∃ H : Heap, H = s.heap := ⟨_, rfl⟩
  have hS : va_S A s.heap H [] := by rw [hHe]; exact va_S.rf
  have hP : va_P D vwCl [(h_wd, .inl (k_wd, 6, .inl wd)), (h_W, .inr (12, [h_W_0, .ref h_wd]))] H := by rw [hHe]; exact hP
  rw [← hHe]
  have hi_X9 : ∀ w ∈ wsX90, w ∈ wsX9_begin := by decide +kernel
  have hl := lv_entry [.ref h_W, .int a1] (n := 2) (Nat.le_of_ble_eq_true rfl)
  rw [lg_entry_eq]
  generalize (lg_sl [.ref h_W, .int a1] ++ List.replicate (2 - (lg_sl [.ref h_W, .int a1]).length) Slot.unset).toArray = ls at hl ⊢
  have hl : lv_has ls 2 [(0, .ref h_W), (1, .int a1)] := hl
  have hM : F_X9_begin wd a1 = (if a1 < 0 then (F_J7_fill_53178 wd 6 1000000) else (if 6 ≤ a1 then (F_J7_fill_53178 wd 6 1000000) else (upd (F_J7_fill_53178 wd 6 1000000) (ix a1) 0))) := rfl
  refine lv_aload_n hx hb dX9_begin_0 rfl (lv_at hl 0 rfl) ?_
  refine va_get (D := D) (ci := 12) (v := .ref h_wd) (own := RX9) (C := RX9) (T := TX9) (N := 2) hx hb hts hi_X9 hown hK hP 1 rfl rfl 1 (by decide) (hts (.fieldLink RX9 15 "CanalMaps$Ways" "distances" "[I") (List.mem_of_getElem? (i := 1) (by decide +kernel))) (fun _ h9 => h9) rfl dX9_begin_1 ?_
  refine lv_ldc (own := RX9) hx hb hown (hts (.constant RX9 38 (1000000)) (List.mem_of_getElem? (i := 2) (by decide +kernel))) dX9_begin_4 ?_
  obtain ⟨y9, hy9⟩ : ∃ y9, (F_J7_fill_53178 wd 6 1000000) = y9 := ⟨_, rfl⟩
  have hcon := (c_J7_fill_53178 l hl0 D ad H.size h_wd k_wd 6 wd 1000000 (by decide +kernel))
  rw [hy9] at hcon
  refine kc_ (wc := [(h_wd, .inl (k_wd, 6, .inl wd))]) (wr := [(h_W, .inr (12, [h_W_0, .ref h_wd]))]) (va_runS (As := [.ref h_wd, .int 1000000]) (rest := []) ⟨hx, hb, hml, hown, hts⟩ hcon (va_cwS 2 hts gX9_begin_J7_fill_53178 rfl rfl rfl (by decide +kernel) ⟨Nat.le_of_ble_eq_true rfl, Nat.le_of_ble_eq_true rfl⟩) ⟨PC_.blind, PC_.pre hF hK hP hD hS hA [0] [0] rfl (by decide) rfl⟩ rfl rfl hl.1 rfl (lv_room (Nat.le_of_ble_eq_true rfl)) dX9_begin_6 ⟨(Nat.le_of_ble_eq_true rfl), (Nat.le_of_ble_eq_true rfl)⟩) hK hP hD hS hA [0] [1] [] rfl rfl (by decide) (by decide) rfl (fun qa_1 ka_1 ia H locs hpo hP hD hK hS => ?_)
  subst hy9
  have hP : va_P D vwCl [(h_W, .inr (12, [h_W_0, .ref h_wd])), (h_wd, .inl (k_wd, 6, .inl (F_J7_fill_53178 wd 6 1000000)))] H := hP
  have hD : va_D A [(h_W, .inr (12, [h_W_0, .ref h_wd])), (h_wd, .inl (k_wd, 6, .inl (F_J7_fill_53178 wd 6 1000000)))] := hD
  have hK : va_K D vwCl [(k_wd, .int)] s := hK
  refine W.eq (g2 := F0 m 9 ls []) rfl ?_
  refine lv_iload_n hx hb dX9_begin_9 rfl (lv_at hl 1 rfl) ?_
  refine lv_if_lt (tgt := 26) hx hb dX9_begin_10 (by decide) (fun c_2 => ?_) (fun c_2 => ?_)
  · rw [if_pos c_2] at hM
    refine W.widen (k := 0) (n := 0) (Nat.le_of_ble_eq_true rfl) (Nat.le_of_ble_eq_true rfl) ?_
    exact W.vret hx hb hr (QG_.mk (fun _ => 0) (fun _ => 0) (fun _ => 0) [1, 0] [0] hP hD hK hS rfl trivial (by first | (rw [hM]; rfl) | rfl) (by decide) rfl) hS.2.2 dX9_begin_26
  · rw [if_neg c_2] at hM
    refine lv_iload_n hx hb dX9_begin_13 rfl (lv_at hl 1 rfl) ?_
    refine lv_bipush (v := 6) hx hb dX9_begin_14 (by decide) ?_
    refine lv_icmp_ge (tgt := 26) hx hb dX9_begin_16 (by decide) (fun c_3 => ?_) (fun c_3 => ?_)
    · rw [if_pos c_3] at hM
      refine W.widen (k := 0) (n := 0) (Nat.le_of_ble_eq_true rfl) (Nat.le_of_ble_eq_true rfl) ?_
      exact W.vret hx hb hr (QG_.mk (fun _ => 0) (fun _ => 0) (fun _ => 0) [1, 0] [0] hP hD hK hS rfl trivial (by first | (rw [hM]; rfl) | rfl) (by decide) rfl) hS.2.2 dX9_begin_26
    · rw [if_neg c_3] at hM
      refine lv_aload_n hx hb dX9_begin_19 rfl (lv_at hl 0 rfl) ?_
      refine va_get (D := D) (ci := 12) (v := .ref h_wd) (own := RX9) (C := RX9) (T := TX9) (N := 2) hx hb hts hi_X9 hown hK hP 0 rfl rfl 1 (by decide) (hts (.fieldLink RX9 15 "CanalMaps$Ways" "distances" "[I") (List.mem_of_getElem? (i := 1) (by decide +kernel))) (fun _ h9 => h9) rfl dX9_begin_20 ?_
      refine lv_iload_n hx hb dX9_begin_23 rfl (lv_at hl 1 rfl) ?_
      refine lv_iconst (v := 0) hx hb dX9_begin_24 (by decide) ?_
      refine ka_iast (g := (upd (F_J7_fill_53178 wd 6 1000000) (ix a1) 0)) hx hb hK hP hD hS 1 0 rfl rfl (vinI (by have y0 := f_nlt c_2; have y1 := f_nle c_3; have e_0 : (0 : Int32).toInt = 0 := (by decide +kernel); have e_6 : (6 : Int32).toInt = 6 := (by decide +kernel); have b4 := Int32.toInt_lt (a1); have d4 := Int32.le_toInt (a1); omega) (by have y0 := f_nlt c_2; have y1 := f_nle c_3; have e_0 : (0 : Int32).toInt = 0 := (by decide +kernel); have e_6 : (6 : Int32).toInt = 6 := (by decide +kernel); have b4 := Int32.toInt_lt (a1); have d4 := Int32.le_toInt (a1); omega)) rfl dX9_begin_25 (fun H locs hP hD hS => ?_)
      have hP : va_P D vwCl [(h_W, .inr (12, [h_W_0, .ref h_wd])), (h_wd, .inl (k_wd, 6, .inl (upd (F_J7_fill_53178 wd 6 1000000) (ix a1) 0)))] H := hP
      have hD : va_D A [(h_W, .inr (12, [h_W_0, .ref h_wd])), (h_wd, .inl (k_wd, 6, .inl (upd (F_J7_fill_53178 wd 6 1000000) (ix a1) 0)))] := hD
      refine W.widen (k := 0) (n := 0) (Nat.le_of_ble_eq_true rfl) (Nat.le_of_ble_eq_true rfl) ?_
      exact W.vret hx hb hr (QG_.mk (fun _ => 0) (fun _ => 0) (fun _ => 0) [1, 0] [0] hP hD hK hS rfl trivial (by first | (rw [hM]; rfl) | rfl) (by decide) rfl) hS.2.2 dX9_begin_26
def B_X9_takeCanals_10 (ds : Nat → Int32) (cs : Nat → Int32) (n : Int32) (x2_2 : Int32) (rc_10 : Int32 → (Nat → Int32) → (Int32 × (Nat → Int32))) (x10_3 : Int32) (x10_h_wc : Nat → Int32) : Int32 × (Nat → Int32) := (if 6 ≤ x10_3 then (x10_3, x10_h_wc) else (if (F_X8_areNeighbours ds cs n x2_2 x10_3) = 0 then (rc_10 (x10_3 + 1) (upd x10_h_wc (ix ((x2_2 * 6) + x10_3)) 0)) else (rc_10 (x10_3 + 1) (upd x10_h_wc (ix ((x2_2 * 6) + x10_3)) (F_X8_costBetween cs x2_2 x10_3)))))
def L_X9_takeCanals_10 (ds : Nat → Int32) (cs : Nat → Int32) (n : Int32) (x2_2 : Int32) : Nat → Int32 → (Nat → Int32) → (Int32 × (Nat → Int32))
  | 0 => fun x10_3 x10_h_wc => (x10_3, x10_h_wc)
  | k + 1 => B_X9_takeCanals_10 ds cs n x2_2 (L_X9_takeCanals_10 ds cs n x2_2 k)
def K_X9_takeCanals_10 (x2_2 : Int32) (rc_2 : Int32 → (Nat → Int32) → (Int32 × (Nat → Int32))) : (Int32 × (Nat → Int32)) → (Int32 × (Nat → Int32))
  | (x10_3, x10_h_wc) => (rc_2 (x2_2 + 1) x10_h_wc)
def B_X9_takeCanals_2 (ds : Nat → Int32) (cs : Nat → Int32) (n : Int32) (rc_2 : Int32 → (Nat → Int32) → (Int32 × (Nat → Int32))) (x2_2 : Int32) (x2_h_wc : Nat → Int32) : Int32 × (Nat → Int32) := (if 6 ≤ x2_2 then (x2_2, x2_h_wc) else (K_X9_takeCanals_10 x2_2 rc_2 (L_X9_takeCanals_10 ds cs n x2_2 (((6 : Int32).toInt - (0 : Int32).toInt).toNat + 1) 0 x2_h_wc)))
def L_X9_takeCanals_2 (ds : Nat → Int32) (cs : Nat → Int32) (n : Int32) : Nat → Int32 → (Nat → Int32) → (Int32 × (Nat → Int32))
  | 0 => fun x2_2 x2_h_wc => (x2_2, x2_h_wc)
  | k + 1 => B_X9_takeCanals_2 ds cs n (L_X9_takeCanals_2 ds cs n k)
def K_X9_takeCanals_2  : (Int32 × (Nat → Int32)) → ((Nat → Int32))
  | (x2_2, x2_h_wc) => x2_h_wc
def F_X9_takeCanals (wc : Nat → Int32) (ds : Nat → Int32) (cs : Nat → Int32) (n : Int32) : (Nat → Int32) := (K_X9_takeCanals_2 (L_X9_takeCanals_2 ds cs n (((6 : Int32).toInt - (0 : Int32).toInt).toNat + 1) 0 wc))
set_option maxHeartbeats 4000000 in
set_option maxRecDepth 100000 in
theorem c_X9_takeCanals (l : Launch) (hl0 : l.stackTraces = false) (D : va_G) (ad : Nat → Nat) (sz : Nat) (h_wc : Nat) (h_W : Nat) (h_ds : Nat) (h_cs : Nat) (h_S : Nat) (k_wc : ClassId) (k_ds : ClassId) (k_cs : ClassId) (h_W_1 : Value) (h_S_0 : Value) (h_S_3 : Value) (h_S_4 : Value) (h_S_6 : Value) (h_S_7 : Value) (h_S_8 : Value) (h_S_9 : Value) (wc : Nat → Int32) (ds : Nat → Int32) (cs : Nat → Int32) (n : Int32) (hy0 : n.toInt ≤ 6) : Met l yX9_takeCanals wsX9_takeCanals ({ frames := 2, cells := 0, slots := 0, locals := 48 }) (PC_ D ad [(h_wc, .inl (k_wc, 36, .inl wc)), (h_W, .inr (12, [.ref h_wc, h_W_1])), (h_ds, .inl (k_ds, 6, .inl ds)), (h_cs, .inl (k_cs, 36, .inl cs)), (h_S, .inr (11, [h_S_0, .ref h_ds, .ref h_cs, h_S_3, h_S_4, .int n, h_S_6, h_S_7, h_S_8, h_S_9]))] [(k_wc, .int), (k_ds, .int), (k_cs, .int)] sz [.ref h_W, .ref h_S]) (QG_ D (fun q i => none) (fun q i => True) (fun q k i => [(h_wc, .inl (k_wc, 36, .inl (F_X9_takeCanals wc ds cs n))), (h_W, .inr (12, [.ref h_wc, h_W_1])), (h_ds, .inl (k_ds, 6, .inl ds)), (h_cs, .inl (k_cs, 36, .inl cs)), (h_S, .inr (11, [h_S_0, .ref h_ds, .ref h_cs, h_S_3, h_S_4, .int n, h_S_6, h_S_7, h_S_8, h_S_9]))]) (fun q k i => [(k_wc, .int), (k_ds, .int), (k_cs, .int)]) (va_A [(h_wc, .inl (k_wc, 36, .inl wc)), (h_W, .inr (12, [.ref h_wc, h_W_1])), (h_ds, .inl (k_ds, 6, .inl ds)), (h_cs, .inl (k_cs, 36, .inl cs)), (h_S, .inr (11, [h_S_0, .ref h_ds, .ref h_cs, h_S_3, h_S_4, .int n, h_S_6, h_S_7, h_S_8, h_S_9]))] sz)) 0 0 (va_A [(h_wc, .inl (k_wc, 36, .inl wc)), (h_W, .inr (12, [.ref h_wc, h_W_1])), (h_ds, .inl (k_ds, 6, .inl ds)), (h_cs, .inl (k_cs, 36, .inl cs)), (h_S, .inr (11, [h_S_0, .ref h_ds, .ref h_cs, h_S_3, h_S_4, .int n, h_S_6, h_S_7, h_S_8, h_S_9]))] sz) := by
  refine Met.ofW (cc := cX9_takeCanals) (maxL := 5) (ret := none) (by decide) rfl ?_
  intro p e s m args below meth c s₁ B hml hv
  obtain ⟨rfl, hsz, hP, hK, hD0, hF⟩ := hv
  have hx := B.exec
  have hb := B.bytes
  have hr := B.returns
  have hts := atoms_spec (ws := wsX9_takeCanals) B.pre
  have hown : s.vm.findClass RX9 = some m.cls := findClass_of_methodNamed B.named
  have hlocks := B.notSynchronized
  subst hsz
  have hD := hD0.self (sz := s.heap.size)
  generalize hAe : va_A [(h_wc, .inl (k_wc, 36, .inl wc)), (h_W, .inr (12, [.ref h_wc, h_W_1])), (h_ds, .inl (k_ds, 6, .inl ds)), (h_cs, .inl (k_cs, 36, .inl cs)), (h_S, .inr (11, [h_S_0, .ref h_ds, .ref h_cs, h_S_3, h_S_4, .int n, h_S_6, h_S_7, h_S_8, h_S_9]))] s.heap.size = A at hD hF ⊢
  have hA : ∀ q : Nat, s.heap.size ≤ q → A q := fun q h => by rw [← hAe]; exact Or.inr h
  obtain ⟨H, hHe⟩ : ∃ H : Heap, H = s.heap := ⟨_, rfl⟩
  have hS : va_S A s.heap H [] := by rw [hHe]; exact va_S.rf
  have hP : va_P D vwCl [(h_wc, .inl (k_wc, 36, .inl wc)), (h_W, .inr (12, [.ref h_wc, h_W_1])), (h_ds, .inl (k_ds, 6, .inl ds)), (h_cs, .inl (k_cs, 36, .inl cs)), (h_S, .inr (11, [h_S_0, .ref h_ds, .ref h_cs, h_S_3, h_S_4, .int n, h_S_6, h_S_7, h_S_8, h_S_9]))] H := by rw [hHe]; exact hP
  rw [← hHe]
  have hi_X9 : ∀ w ∈ wsX90, w ∈ wsX9_takeCanals := by decide +kernel
  have hl := lv_entry [.ref h_W, .ref h_S] (n := 5) (Nat.le_of_ble_eq_true rfl)
  rw [lg_entry_eq]
  generalize (lg_sl [.ref h_W, .ref h_S] ++ List.replicate (5 - (lg_sl [.ref h_W, .ref h_S]).length) Slot.unset).toArray = ls at hl ⊢
  have hl : lv_has ls 5 [(0, .ref h_W), (1, .ref h_S)] := hl
  have hM : F_X9_takeCanals wc ds cs n = (K_X9_takeCanals_2 (L_X9_takeCanals_2 ds cs n (((6 : Int32).toInt - (0 : Int32).toInt).toNat + 1) 0 wc)) := rfl
  refine lv_iconst (v := 0) hx hb dX9_takeCanals_0 (by decide) ?_
  refine lv_istore_n (lv' := [(2, .int 0), (0, .ref h_W), (1, .ref h_S)]) hx hb dX9_takeCanals_1 rfl hl (by decide) rfl (fun ls hl => ?_)
  refine lpW (τ := Int32 × (Nat → Int32)) (fun k t H locs ls c9 s9 => ((6 : Int32).toInt - (t.1 : Int32).toInt).toNat < k ∧ 0 ≤ (t.1 : Int32).toInt ∧ va_P D vwCl [(h_wc, .inl (k_wc, 36, .inl t.2)), (h_W, .inr (12, [.ref h_wc, h_W_1])), (h_ds, .inl (k_ds, 6, .inl ds)), (h_cs, .inl (k_cs, 36, .inl cs)), (h_S, .inr (11, [h_S_0, .ref h_ds, .ref h_cs, h_S_3, h_S_4, .int n, h_S_6, h_S_7, h_S_8, h_S_9]))] H ∧ va_D A [(h_wc, .inl (k_wc, 36, .inl t.2)), (h_W, .inr (12, [.ref h_wc, h_W_1])), (h_ds, .inl (k_ds, 6, .inl ds)), (h_cs, .inl (k_cs, 36, .inl cs)), (h_S, .inr (11, [h_S_0, .ref h_ds, .ref h_cs, h_S_3, h_S_4, .int n, h_S_6, h_S_7, h_S_8, h_S_9]))] ∧ va_S A s.heap H locs ∧ lv_has ls 5 [(2, .int t.1), (0, .ref h_W), (1, .ref h_S)] ∧ F_X9_takeCanals wc ds cs n = (K_X9_takeCanals_2 (L_X9_takeCanals_2 ds cs n k t.1 t.2)) ∧ c9 = 0 ∧ s9 = 0) (fun t H locs ls c9 s9 h9 => absurd h9.1 (Nat.not_lt_zero _)) (fun k_1 ih t H locs ls c9 s9 hI => ?_) (((6 : Int32).toInt - (0 : Int32).toInt).toNat + 1) (0, wc) ⟨Nat.lt_succ_self _, (show 0 ≤ (0 : Int32).toInt from (by decide +kernel)), hP, hD, hS, (by exact hl), hM, rfl, rfl⟩
  obtain ⟨x2_2, x2_h_wc⟩ := t
  obtain ⟨hk_1, hz_1, hP, hD, hS, hl, hM, hcs, hss⟩ := hI
  replace hcs := hcs.symm
  subst hcs
  replace hss := hss.symm
  subst hss
  have hP : va_P D vwCl [(h_wc, .inl (k_wc, 36, .inl x2_h_wc)), (h_W, .inr (12, [.ref h_wc, h_W_1])), (h_ds, .inl (k_ds, 6, .inl ds)), (h_cs, .inl (k_cs, 36, .inl cs)), (h_S, .inr (11, [h_S_0, .ref h_ds, .ref h_cs, h_S_3, h_S_4, .int n, h_S_6, h_S_7, h_S_8, h_S_9]))] H := hP
  have hD : va_D A [(h_wc, .inl (k_wc, 36, .inl x2_h_wc)), (h_W, .inr (12, [.ref h_wc, h_W_1])), (h_ds, .inl (k_ds, 6, .inl ds)), (h_cs, .inl (k_cs, 36, .inl cs)), (h_S, .inr (11, [h_S_0, .ref h_ds, .ref h_cs, h_S_3, h_S_4, .int n, h_S_6, h_S_7, h_S_8, h_S_9]))] := hD
  have hl : lv_has ls 5 [(2, .int x2_2), (0, .ref h_W), (1, .ref h_S)] := hl
  have hz_1 : 0 ≤ (x2_2 : Int32).toInt := hz_1
  have hk_1 : ((6 : Int32).toInt - (x2_2 : Int32).toInt).toNat < k_1 + 1 := hk_1
  have hM : F_X9_takeCanals wc ds cs n = (K_X9_takeCanals_2 ((if 6 ≤ x2_2 then (x2_2, x2_h_wc) else (K_X9_takeCanals_10 x2_2 (L_X9_takeCanals_2 ds cs n k_1) (L_X9_takeCanals_10 ds cs n x2_2 (((6 : Int32).toInt - (0 : Int32).toInt).toNat + 1) 0 x2_h_wc))))) := hM
  have ih_1 := ih
  refine lv_iload_n hx hb dX9_takeCanals_2 rfl (lv_at hl 0 rfl) ?_
  refine lv_bipush (v := 6) hx hb dX9_takeCanals_3 (by decide) ?_
  refine lv_icmp_ge (tgt := 62) hx hb dX9_takeCanals_5 (by decide) (fun c_2 => ?_) (fun c_2 => ?_)
  · rw [if_pos c_2] at hM
    have hM : F_X9_takeCanals wc ds cs n = x2_h_wc := hM
    refine W.widen (k := 0) (n := 0) (Nat.le_of_ble_eq_true rfl) (Nat.le_of_ble_eq_true rfl) ?_
    exact W.vret hx hb hr (QG_.mk (fun _ => 0) (fun _ => 0) (fun _ => 0) [0, 1, 2, 3, 4] [0, 1, 2] hP hD hK hS rfl trivial (by first | (rw [hM]; rfl) | rfl) (by decide) rfl) hS.2.2 dX9_takeCanals_62
  · rw [if_neg c_2] at hM
    refine lv_iconst (v := 0) hx hb dX9_takeCanals_8 (by decide) ?_
    refine lv_istore_n (lv' := [(3, .int 0), (2, .int x2_2), (0, .ref h_W), (1, .ref h_S)]) hx hb dX9_takeCanals_9 rfl hl (by decide) rfl (fun ls hl => ?_)
    refine lpW (τ := Int32 × (Nat → Int32)) (fun k t H locs ls c9 s9 => ((6 : Int32).toInt - (t.1 : Int32).toInt).toNat < k ∧ 0 ≤ (t.1 : Int32).toInt ∧ va_P D vwCl [(h_wc, .inl (k_wc, 36, .inl t.2)), (h_W, .inr (12, [.ref h_wc, h_W_1])), (h_ds, .inl (k_ds, 6, .inl ds)), (h_cs, .inl (k_cs, 36, .inl cs)), (h_S, .inr (11, [h_S_0, .ref h_ds, .ref h_cs, h_S_3, h_S_4, .int n, h_S_6, h_S_7, h_S_8, h_S_9]))] H ∧ va_D A [(h_wc, .inl (k_wc, 36, .inl t.2)), (h_W, .inr (12, [.ref h_wc, h_W_1])), (h_ds, .inl (k_ds, 6, .inl ds)), (h_cs, .inl (k_cs, 36, .inl cs)), (h_S, .inr (11, [h_S_0, .ref h_ds, .ref h_cs, h_S_3, h_S_4, .int n, h_S_6, h_S_7, h_S_8, h_S_9]))] ∧ va_S A s.heap H locs ∧ lv_has ls 5 [(3, .int t.1), (2, .int x2_2), (0, .ref h_W), (1, .ref h_S)] ∧ F_X9_takeCanals wc ds cs n = (K_X9_takeCanals_2 ((K_X9_takeCanals_10 x2_2 (L_X9_takeCanals_2 ds cs n k_1) (L_X9_takeCanals_10 ds cs n x2_2 k t.1 t.2)))) ∧ c9 = 0 ∧ s9 = 0) (fun t H locs ls c9 s9 h9 => absurd h9.1 (Nat.not_lt_zero _)) (fun k_3 ih t H locs ls c9 s9 hI => ?_) (((6 : Int32).toInt - (0 : Int32).toInt).toNat + 1) (0, x2_h_wc) ⟨Nat.lt_succ_self _, (show 0 ≤ (0 : Int32).toInt from (by decide +kernel)), hP, hD, hS, (by exact hl), hM, rfl, rfl⟩
    obtain ⟨x10_3, x10_h_wc⟩ := t
    obtain ⟨hk_3, hz_3, hP, hD, hS, hl, hM, hcs, hss⟩ := hI
    replace hcs := hcs.symm
    subst hcs
    replace hss := hss.symm
    subst hss
    have hP : va_P D vwCl [(h_wc, .inl (k_wc, 36, .inl x10_h_wc)), (h_W, .inr (12, [.ref h_wc, h_W_1])), (h_ds, .inl (k_ds, 6, .inl ds)), (h_cs, .inl (k_cs, 36, .inl cs)), (h_S, .inr (11, [h_S_0, .ref h_ds, .ref h_cs, h_S_3, h_S_4, .int n, h_S_6, h_S_7, h_S_8, h_S_9]))] H := hP
    have hD : va_D A [(h_wc, .inl (k_wc, 36, .inl x10_h_wc)), (h_W, .inr (12, [.ref h_wc, h_W_1])), (h_ds, .inl (k_ds, 6, .inl ds)), (h_cs, .inl (k_cs, 36, .inl cs)), (h_S, .inr (11, [h_S_0, .ref h_ds, .ref h_cs, h_S_3, h_S_4, .int n, h_S_6, h_S_7, h_S_8, h_S_9]))] := hD
    have hl : lv_has ls 5 [(3, .int x10_3), (2, .int x2_2), (0, .ref h_W), (1, .ref h_S)] := hl
    have hz_3 : 0 ≤ (x10_3 : Int32).toInt := hz_3
    have hk_3 : ((6 : Int32).toInt - (x10_3 : Int32).toInt).toNat < k_3 + 1 := hk_3
    have hM : F_X9_takeCanals wc ds cs n = (K_X9_takeCanals_2 ((K_X9_takeCanals_10 x2_2 (L_X9_takeCanals_2 ds cs n k_1) ((if 6 ≤ x10_3 then (x10_3, x10_h_wc) else (if (F_X8_areNeighbours ds cs n x2_2 x10_3) = 0 then ((L_X9_takeCanals_10 ds cs n x2_2 k_3) (x10_3 + 1) (upd x10_h_wc (ix ((x2_2 * 6) + x10_3)) 0)) else ((L_X9_takeCanals_10 ds cs n x2_2 k_3) (x10_3 + 1) (upd x10_h_wc (ix ((x2_2 * 6) + x10_3)) (F_X8_costBetween cs x2_2 x10_3))))))))) := hM
    have ih_3 := ih
    refine lv_iload_n hx hb dX9_takeCanals_10 rfl (lv_at hl 0 rfl) ?_
    refine lv_bipush (v := 6) hx hb dX9_takeCanals_11 (by decide) ?_
    refine lv_icmp_ge (tgt := 56) hx hb dX9_takeCanals_13 (by decide) (fun c_4 => ?_) (fun c_4 => ?_)
    · rw [if_pos c_4] at hM
      have hM : F_X9_takeCanals wc ds cs n = (K_X9_takeCanals_2 (((L_X9_takeCanals_2 ds cs n k_1) (x2_2 + 1) x10_h_wc))) := hM
      refine lv_iinc (v := (x2_2 + 1)) (lv' := [(2, .int (x2_2 + 1)), (3, .int x10_3), (0, .ref h_W), (1, .ref h_S)]) hx hb dX9_takeCanals_56 hl (k := 1) rfl rfl (by decide) rfl (fun ls hl => ?_)
      refine lv_goto (tgt := 2) hx hb dX9_takeCanals_59 (by decide) ?_
      exact ih_1 ((x2_2 + 1), x10_h_wc) _ _ _ _ _ ⟨lp_up hk_1 c_2, lp_up0 hz_1 c_2, hP, hD, hS, lv_sub hl [0, 2, 3] rfl, hM, rfl, rfl⟩
    · rw [if_neg c_4] at hM
      refine lv_aload_n hx hb dX9_takeCanals_16 rfl (lv_at hl 3 rfl) ?_
      refine lv_iload_n hx hb dX9_takeCanals_17 rfl (lv_at hl 1 rfl) ?_
      refine lv_iload_n hx hb dX9_takeCanals_18 rfl (lv_at hl 0 rfl) ?_
      obtain ⟨y9, hy9⟩ : ∃ y9, (F_X8_areNeighbours ds cs n x2_2 x10_3) = y9 := ⟨_, rfl⟩
      have hcon := (c_X8_areNeighbours l hl0 D ad H.size h_ds h_cs h_S k_ds k_cs (h_S_0) (h_S_3) (h_S_4) (h_S_6) (h_S_7) (h_S_8) (h_S_9) ds cs n x2_2 x10_3 (by have y0 := f_nle c_2; have y1 := f_nle c_4; have z0 := hy0; have z1 := hz_1; have z2 := hz_3; have e_6 : (6 : Int32).toInt = 6 := (by decide +kernel); omega))
      rw [hy9] at hcon
      refine kr_ (va_runV (As := [.int x2_2, .int x10_3]) (rest := []) ⟨hx, hb, hml, hown, hts⟩ hcon (cwV 2 hts gX9_takeCanals_X8_areNeighbours rfl rfl rfl (by decide +kernel) ⟨Nat.le_of_ble_eq_true rfl, Nat.le_of_ble_eq_true rfl⟩) ⟨PR_.blind, va_recv hK hP (ci := 11) (q0 := 4) rfl rfl, PR_.pre hF hK (hP.sub [2, 3, 4] rfl) hS hA [1, 2] rfl⟩ rfl rfl hl.1 rfl (lv_room (Nat.le_of_ble_eq_true rfl)) dX9_takeCanals_19 ⟨(Nat.le_of_ble_eq_true rfl), (Nat.le_of_ble_eq_true rfl)⟩) hP hS hA (fun H locs hP hS => ?_)
      subst hy9
      refine W.eq (g2 := F0 m 22 ls [.int (F_X8_areNeighbours ds cs n x2_2 x10_3)]) rfl ?_
      refine lv_istore (lv' := [(4, .int (F_X8_areNeighbours ds cs n x2_2 x10_3)), (3, .int x10_3), (2, .int x2_2), (0, .ref h_W), (1, .ref h_S)]) hx hb dX9_takeCanals_22 hl (by decide) rfl (fun ls hl => ?_)
      refine lv_aload_n hx hb dX9_takeCanals_24 rfl (lv_at hl 3 rfl) ?_
      refine va_get (D := D) (ci := 12) (v := .ref h_wc) (own := RX9) (C := RX9) (T := TX9) (N := 2) hx hb hts hi_X9 hown hK hP 1 rfl rfl 0 (by decide) (hts (.fieldLink RX9 9 "CanalMaps$Ways" "costs" "[I") (List.mem_of_getElem? (i := 1) (by decide +kernel))) (fun _ h9 => h9) rfl dX9_takeCanals_25 ?_
      refine lv_iload_n hx hb dX9_takeCanals_28 rfl (lv_at hl 2 rfl) ?_
      refine lv_bipush (v := 6) hx hb dX9_takeCanals_29 (by decide) ?_
      refine lv_imul hx hb dX9_takeCanals_31 ?_
      refine lv_iload_n hx hb dX9_takeCanals_32 rfl (lv_at hl 1 rfl) ?_
      refine lv_iadd hx hb dX9_takeCanals_33 ?_
      refine lv_iload hx hb dX9_takeCanals_34 (lv_at hl 0 rfl) ?_
      refine lv_if_eq (tgt := 48) hx hb dX9_takeCanals_36 (by decide) (fun c_6 => ?_) (fun c_6 => ?_)
      · rw [if_pos c_6] at hM
        refine lv_iconst (v := 0) hx hb dX9_takeCanals_48 (by decide) ?_
        refine ka_iast (g := (upd x10_h_wc (ix ((x2_2 * 6) + x10_3)) 0)) hx hb hK hP hD hS 0 0 rfl rfl (vinI (by have y0 := f_nle c_2; have y1 := f_nle c_4; have y2 := f_eq c_6; have z0 := hy0; have z1 := hz_1; have z2 := hz_3; have e_0 : (0 : Int32).toInt = 0 := (by decide +kernel); have e_6 : (6 : Int32).toInt = 6 := (by decide +kernel); have b631 := Int32.toInt_lt (x2_2); have d631 := Int32.le_toInt (x2_2); have b632 := Int32.toInt_lt (x10_3); have d632 := Int32.le_toInt (x10_3); have q625 := ix6 (a := x2_2) (b := x10_3) (by omega) (by omega) (by omega) (by omega); omega) (by have y0 := f_nle c_2; have y1 := f_nle c_4; have y2 := f_eq c_6; have z0 := hy0; have z1 := hz_1; have z2 := hz_3; have e_0 : (0 : Int32).toInt = 0 := (by decide +kernel); have e_6 : (6 : Int32).toInt = 6 := (by decide +kernel); have b631 := Int32.toInt_lt (x2_2); have d631 := Int32.le_toInt (x2_2); have b632 := Int32.toInt_lt (x10_3); have d632 := Int32.le_toInt (x10_3); have q625 := ix6 (a := x2_2) (b := x10_3) (by omega) (by omega) (by omega) (by omega); omega)) rfl dX9_takeCanals_49 (fun H locs hP hD hS => ?_)
        have hP : va_P D vwCl [(h_wc, .inl (k_wc, 36, .inl (upd x10_h_wc (ix ((x2_2 * 6) + x10_3)) 0))), (h_W, .inr (12, [.ref h_wc, h_W_1])), (h_ds, .inl (k_ds, 6, .inl ds)), (h_cs, .inl (k_cs, 36, .inl cs)), (h_S, .inr (11, [h_S_0, .ref h_ds, .ref h_cs, h_S_3, h_S_4, .int n, h_S_6, h_S_7, h_S_8, h_S_9]))] H := hP
        have hD : va_D A [(h_wc, .inl (k_wc, 36, .inl (upd x10_h_wc (ix ((x2_2 * 6) + x10_3)) 0))), (h_W, .inr (12, [.ref h_wc, h_W_1])), (h_ds, .inl (k_ds, 6, .inl ds)), (h_cs, .inl (k_cs, 36, .inl cs)), (h_S, .inr (11, [h_S_0, .ref h_ds, .ref h_cs, h_S_3, h_S_4, .int n, h_S_6, h_S_7, h_S_8, h_S_9]))] := hD
        refine lv_iinc (v := (x10_3 + 1)) (lv' := [(3, .int (x10_3 + 1)), (4, .int (F_X8_areNeighbours ds cs n x2_2 x10_3)), (2, .int x2_2), (0, .ref h_W), (1, .ref h_S)]) hx hb dX9_takeCanals_50 hl (k := 1) rfl rfl (by decide) rfl (fun ls hl => ?_)
        refine lv_goto (tgt := 10) hx hb dX9_takeCanals_53 (by decide) ?_
        exact ih_3 ((x10_3 + 1), (upd x10_h_wc (ix ((x2_2 * 6) + x10_3)) 0)) _ _ _ _ _ ⟨lp_up hk_3 c_4, lp_up0 hz_3 c_4, hP, hD, hS, lv_sub hl [0, 2, 3, 4] rfl, hM, rfl, rfl⟩
      · rw [if_neg c_6] at hM
        refine lv_aload_n hx hb dX9_takeCanals_39 rfl (lv_at hl 4 rfl) ?_
        refine lv_iload_n hx hb dX9_takeCanals_40 rfl (lv_at hl 2 rfl) ?_
        refine lv_iload_n hx hb dX9_takeCanals_41 rfl (lv_at hl 1 rfl) ?_
        obtain ⟨y9, hy9⟩ : ∃ y9, (F_X8_costBetween cs x2_2 x10_3) = y9 := ⟨_, rfl⟩
        have hcon := (c_X8_costBetween l hl0 D ad H.size h_cs h_S k_cs (h_S_0) (.ref h_ds) (h_S_3) (h_S_4) (.int n) (h_S_6) (h_S_7) (h_S_8) (h_S_9) cs x2_2 x10_3)
        rw [hy9] at hcon
        refine kr_ (va_runV (As := [.int x2_2, .int x10_3]) (rest := [.int ((x2_2 * 6) + x10_3), .ref h_wc]) ⟨hx, hb, hml, hown, hts⟩ hcon (cwV 2 hts gX9_takeCanals_X8_costBetween rfl rfl rfl (by decide +kernel) ⟨Nat.le_of_ble_eq_true rfl, Nat.le_of_ble_eq_true rfl⟩) ⟨PR_.blind, va_recv hK hP (ci := 11) (q0 := 4) rfl rfl, PR_.pre hF hK (hP.sub [3, 4] rfl) hS hA [2] rfl⟩ rfl rfl hl.1 rfl (lv_room (Nat.le_of_ble_eq_true rfl)) dX9_takeCanals_42 ⟨(Nat.le_of_ble_eq_true rfl), (Nat.le_of_ble_eq_true rfl)⟩) hP hS hA (fun H locs hP hS => ?_)
        subst hy9
        refine W.eq (g2 := F0 m 45 ls [.int (F_X8_costBetween cs x2_2 x10_3), .int ((x2_2 * 6) + x10_3), .ref h_wc]) rfl ?_
        refine lv_goto (tgt := 49) hx hb dX9_takeCanals_45 (by decide) ?_
        refine ka_iast (g := (upd x10_h_wc (ix ((x2_2 * 6) + x10_3)) (F_X8_costBetween cs x2_2 x10_3))) hx hb hK hP hD hS 0 0 rfl rfl (vinI (by have y0 := f_nle c_2; have y1 := f_nle c_4; have y2 := f_neq c_6; have z0 := hy0; have z1 := hz_1; have z2 := hz_3; have e_0 : (0 : Int32).toInt = 0 := (by decide +kernel); have e_6 : (6 : Int32).toInt = 6 := (by decide +kernel); have b639 := Int32.toInt_lt (x2_2); have d639 := Int32.le_toInt (x2_2); have b640 := Int32.toInt_lt (x10_3); have d640 := Int32.le_toInt (x10_3); have q633 := ix6 (a := x2_2) (b := x10_3) (by omega) (by omega) (by omega) (by omega); omega) (by have y0 := f_nle c_2; have y1 := f_nle c_4; have y2 := f_neq c_6; have z0 := hy0; have z1 := hz_1; have z2 := hz_3; have e_0 : (0 : Int32).toInt = 0 := (by decide +kernel); have e_6 : (6 : Int32).toInt = 6 := (by decide +kernel); have b639 := Int32.toInt_lt (x2_2); have d639 := Int32.le_toInt (x2_2); have b640 := Int32.toInt_lt (x10_3); have d640 := Int32.le_toInt (x10_3); have q633 := ix6 (a := x2_2) (b := x10_3) (by omega) (by omega) (by omega) (by omega); omega)) rfl dX9_takeCanals_49 (fun H locs hP hD hS => ?_)
        have hP : va_P D vwCl [(h_wc, .inl (k_wc, 36, .inl (upd x10_h_wc (ix ((x2_2 * 6) + x10_3)) (F_X8_costBetween cs x2_2 x10_3)))), (h_W, .inr (12, [.ref h_wc, h_W_1])), (h_ds, .inl (k_ds, 6, .inl ds)), (h_cs, .inl (k_cs, 36, .inl cs)), (h_S, .inr (11, [h_S_0, .ref h_ds, .ref h_cs, h_S_3, h_S_4, .int n, h_S_6, h_S_7, h_S_8, h_S_9]))] H := hP
        have hD : va_D A [(h_wc, .inl (k_wc, 36, .inl (upd x10_h_wc (ix ((x2_2 * 6) + x10_3)) (F_X8_costBetween cs x2_2 x10_3)))), (h_W, .inr (12, [.ref h_wc, h_W_1])), (h_ds, .inl (k_ds, 6, .inl ds)), (h_cs, .inl (k_cs, 36, .inl cs)), (h_S, .inr (11, [h_S_0, .ref h_ds, .ref h_cs, h_S_3, h_S_4, .int n, h_S_6, h_S_7, h_S_8, h_S_9]))] := hD
        refine lv_iinc (v := (x10_3 + 1)) (lv' := [(3, .int (x10_3 + 1)), (4, .int (F_X8_areNeighbours ds cs n x2_2 x10_3)), (2, .int x2_2), (0, .ref h_W), (1, .ref h_S)]) hx hb dX9_takeCanals_50 hl (k := 1) rfl rfl (by decide) rfl (fun ls hl => ?_)
        refine lv_goto (tgt := 10) hx hb dX9_takeCanals_53 (by decide) ?_
        exact ih_3 ((x10_3 + 1), (upd x10_h_wc (ix ((x2_2 * 6) + x10_3)) (F_X8_costBetween cs x2_2 x10_3))) _ _ _ _ _ ⟨lp_up hk_3 c_4, lp_up0 hz_3 c_4, hP, hD, hS, lv_sub hl [0, 2, 3, 4] rfl, hM, rfl, rfl⟩
def B_X9_takeMap_19 (PP : List PG) (mp : Nat → Int32) (a2 : Int32) (x2_3 : Int32) (rc_19 : Int32 → (Nat → Int32) → (Int32 × (Nat → Int32))) (x19_5 : Int32) (x19_h_wc : Nat → Int32) : Int32 × (Nat → Int32) := (if 6 ≤ x19_5 then (x19_5, x19_h_wc) else (if (F_X6_costTo ((pgd PP (F_X8_pageIn PP mp a2 x19_5)).2.2.2) x2_3) ≤ 0 then (rc_19 (x19_5 + 1) (upd x19_h_wc (ix ((x2_3 * 6) + x19_5)) 0)) else (rc_19 (x19_5 + 1) (upd x19_h_wc (ix ((x2_3 * 6) + x19_5)) (F_X6_costTo ((pgd PP (F_X8_pageIn PP mp a2 x2_3)).2.2.2) x19_5)))))
def L_X9_takeMap_19 (PP : List PG) (mp : Nat → Int32) (a2 : Int32) (x2_3 : Int32) : Nat → Int32 → (Nat → Int32) → (Int32 × (Nat → Int32))
  | 0 => fun x19_5 x19_h_wc => (x19_5, x19_h_wc)
  | k + 1 => B_X9_takeMap_19 PP mp a2 x2_3 (L_X9_takeMap_19 PP mp a2 x2_3 k)
def K_X9_takeMap_19 (x2_3 : Int32) (rc_2 : Int32 → (Nat → Int32) → (Int32 × (Nat → Int32))) : (Int32 × (Nat → Int32)) → (Int32 × (Nat → Int32))
  | (x19_5, x19_h_wc) => (rc_2 (x2_3 + 1) x19_h_wc)
def B_X9_takeMap_2 (PP : List PG) (mp : Nat → Int32) (a2 : Int32) (rc_2 : Int32 → (Nat → Int32) → (Int32 × (Nat → Int32))) (x2_3 : Int32) (x2_h_wc : Nat → Int32) : Int32 × (Nat → Int32) := (if 6 ≤ x2_3 then (x2_3, x2_h_wc) else (K_X9_takeMap_19 x2_3 rc_2 (L_X9_takeMap_19 PP mp a2 x2_3 (((6 : Int32).toInt - (0 : Int32).toInt).toNat + 1) 0 x2_h_wc)))
def L_X9_takeMap_2 (PP : List PG) (mp : Nat → Int32) (a2 : Int32) : Nat → Int32 → (Nat → Int32) → (Int32 × (Nat → Int32))
  | 0 => fun x2_3 x2_h_wc => (x2_3, x2_h_wc)
  | k + 1 => B_X9_takeMap_2 PP mp a2 (L_X9_takeMap_2 PP mp a2 k)
def K_X9_takeMap_2  : (Int32 × (Nat → Int32)) → ((Nat → Int32))
  | (x2_3, x2_h_wc) => x2_h_wc
def F_X9_takeMap (wc : Nat → Int32) (PP : List PG) (mp : Nat → Int32) (a2 : Int32) : (Nat → Int32) := (K_X9_takeMap_2 (L_X9_takeMap_2 PP mp a2 (((6 : Int32).toInt - (0 : Int32).toInt).toNat + 1) 0 wc))
set_option maxHeartbeats 4000000 in
set_option maxRecDepth 100000 in
theorem c_X9_takeMap (l : Launch) (hl0 : l.stackTraces = false) (D : va_G) (ad : Nat → Nat) (sz : Nat) (h_wc : Nat) (h_W : Nat) (h_el : Nat) (h_li : Nat) (h_A : Nat) (h_mp : Nat) (h_S : Nat) (k_wc : ClassId) (k_el : ClassId) (k_mp : ClassId) (h_W_1 : Value) (h_li_0 : Value) (h_S_1 : Value) (h_S_2 : Value) (h_S_4 : Value) (h_S_5 : Value) (h_S_6 : Value) (h_S_7 : Value) (h_S_8 : Value) (h_S_9 : Value) (kI : ClassId) (AL : List (Nat × Nat)) (PP : List PG) (wc : Nat → Int32) (capE : Nat) (mp : Nat → Int32) (a2 : Int32) (hlen : AL.length = PP.length) (hpos : 0 < PP.length) (hbig : PP.length ≤ 2000000) (hy0 : PP.length ≤ capE) : Met l yX9_takeMap wsX9_takeMap ({ frames := 5, cells := 0, slots := 0, locals := 117 }) (PC_ D ad ([(h_wc, .inl (k_wc, 36, .inl wc)), (h_W, .inr (12, [.ref h_wc, h_W_1])), (h_el, .inl (k_el, capE, .inr (.inr (.inr (.inr (egl AL)))))), (h_li, .inr (4, [h_li_0, .ref h_el, .int (nI PP.length)])), (h_A, .inr (5, [.ref h_li, .ref (pad AL 0)])), (h_mp, .inl (k_mp, 36, .inl mp)), (h_S, .inr (11, [.ref h_A, h_S_1, h_S_2, .ref h_mp, h_S_4, h_S_5, h_S_6, h_S_7, h_S_8, h_S_9]))] ++ pgl kI AL PP) [(k_wc, .int), (k_el, .object "java/lang/Object"), (k_mp, .int), (kI, .int)] sz [.ref h_W, .ref h_S, .int a2]) (QG_ D (fun q i => none) (fun q i => True) (fun q k i => ([(h_wc, .inl (k_wc, 36, .inl (F_X9_takeMap wc PP mp a2))), (h_W, .inr (12, [.ref h_wc, h_W_1])), (h_el, .inl (k_el, capE, .inr (.inr (.inr (.inr (egl AL)))))), (h_li, .inr (4, [h_li_0, .ref h_el, .int (nI PP.length)])), (h_A, .inr (5, [.ref h_li, .ref (pad AL 0)])), (h_mp, .inl (k_mp, 36, .inl mp)), (h_S, .inr (11, [.ref h_A, h_S_1, h_S_2, .ref h_mp, h_S_4, h_S_5, h_S_6, h_S_7, h_S_8, h_S_9]))] ++ pgl kI AL PP)) (fun q k i => [(k_wc, .int), (k_el, .object "java/lang/Object"), (k_mp, .int), (kI, .int)]) (va_A ([(h_wc, .inl (k_wc, 36, .inl wc)), (h_W, .inr (12, [.ref h_wc, h_W_1])), (h_el, .inl (k_el, capE, .inr (.inr (.inr (.inr (egl AL)))))), (h_li, .inr (4, [h_li_0, .ref h_el, .int (nI PP.length)])), (h_A, .inr (5, [.ref h_li, .ref (pad AL 0)])), (h_mp, .inl (k_mp, 36, .inl mp)), (h_S, .inr (11, [.ref h_A, h_S_1, h_S_2, .ref h_mp, h_S_4, h_S_5, h_S_6, h_S_7, h_S_8, h_S_9]))] ++ pgl kI AL PP) sz)) 0 0 (va_A ([(h_wc, .inl (k_wc, 36, .inl wc)), (h_W, .inr (12, [.ref h_wc, h_W_1])), (h_el, .inl (k_el, capE, .inr (.inr (.inr (.inr (egl AL)))))), (h_li, .inr (4, [h_li_0, .ref h_el, .int (nI PP.length)])), (h_A, .inr (5, [.ref h_li, .ref (pad AL 0)])), (h_mp, .inl (k_mp, 36, .inl mp)), (h_S, .inr (11, [.ref h_A, h_S_1, h_S_2, .ref h_mp, h_S_4, h_S_5, h_S_6, h_S_7, h_S_8, h_S_9]))] ++ pgl kI AL PP) sz) := by
  refine Met.ofW (cc := cX9_takeMap) (maxL := 7) (ret := none) (by decide) rfl ?_
  intro p e s m args below meth c s₁ B hml hv
  obtain ⟨rfl, hsz, hP, hK, hD0, hF⟩ := hv
  have hx := B.exec
  have hb := B.bytes
  have hr := B.returns
  have hts := atoms_spec (ws := wsX9_takeMap) B.pre
  have hown : s.vm.findClass RX9 = some m.cls := findClass_of_methodNamed B.named
  have hlocks := B.notSynchronized
  subst hsz
  have hD := hD0.self (sz := s.heap.size)
  generalize hAe : va_A ([(h_wc, .inl (k_wc, 36, .inl wc)), (h_W, .inr (12, [.ref h_wc, h_W_1])), (h_el, .inl (k_el, capE, .inr (.inr (.inr (.inr (egl AL)))))), (h_li, .inr (4, [h_li_0, .ref h_el, .int (nI PP.length)])), (h_A, .inr (5, [.ref h_li, .ref (pad AL 0)])), (h_mp, .inl (k_mp, 36, .inl mp)), (h_S, .inr (11, [.ref h_A, h_S_1, h_S_2, .ref h_mp, h_S_4, h_S_5, h_S_6, h_S_7, h_S_8, h_S_9]))] ++ pgl kI AL PP) s.heap.size = A at hD hF ⊢
  have hA : ∀ q : Nat, s.heap.size ≤ q → A q := fun q h => by rw [← hAe]; exact Or.inr h
  obtain ⟨H, hHe⟩ : ∃ H : Heap, H = s.heap := ⟨_, rfl⟩
  have hS : va_S A s.heap H [] := by rw [hHe]; exact va_S.rf
  have hP : va_P D vwCl ([(h_wc, .inl (k_wc, 36, .inl wc)), (h_W, .inr (12, [.ref h_wc, h_W_1])), (h_el, .inl (k_el, capE, .inr (.inr (.inr (.inr (egl AL)))))), (h_li, .inr (4, [h_li_0, .ref h_el, .int (nI PP.length)])), (h_A, .inr (5, [.ref h_li, .ref (pad AL 0)])), (h_mp, .inl (k_mp, 36, .inl mp)), (h_S, .inr (11, [.ref h_A, h_S_1, h_S_2, .ref h_mp, h_S_4, h_S_5, h_S_6, h_S_7, h_S_8, h_S_9]))] ++ pgl kI AL PP) H := by rw [hHe]; exact hP
  rw [← hHe]
  have hi_X9 : ∀ w ∈ wsX90, w ∈ wsX9_takeMap := by decide +kernel
  have hl := lv_entry [.ref h_W, .ref h_S, .int a2] (n := 7) (Nat.le_of_ble_eq_true rfl)
  rw [lg_entry_eq]
  generalize (lg_sl [.ref h_W, .ref h_S, .int a2] ++ List.replicate (7 - (lg_sl [.ref h_W, .ref h_S, .int a2]).length) Slot.unset).toArray = ls at hl ⊢
  have hl : lv_has ls 7 [(0, .ref h_W), (1, .ref h_S), (2, .int a2)] := hl
  have hM : F_X9_takeMap wc PP mp a2 = (K_X9_takeMap_2 (L_X9_takeMap_2 PP mp a2 (((6 : Int32).toInt - (0 : Int32).toInt).toNat + 1) 0 wc)) := rfl
  refine lv_iconst (v := 0) hx hb dX9_takeMap_0 (by decide) ?_
  refine lv_istore_n (lv' := [(3, .int 0), (0, .ref h_W), (1, .ref h_S), (2, .int a2)]) hx hb dX9_takeMap_1 rfl hl (by decide) rfl (fun ls hl => ?_)
  refine lpW (τ := Int32 × (Nat → Int32)) (fun k t H locs ls c9 s9 => ((6 : Int32).toInt - (t.1 : Int32).toInt).toNat < k ∧ 0 ≤ (t.1 : Int32).toInt ∧ va_P D vwCl ([(h_wc, .inl (k_wc, 36, .inl t.2)), (h_W, .inr (12, [.ref h_wc, h_W_1])), (h_el, .inl (k_el, capE, .inr (.inr (.inr (.inr (egl AL)))))), (h_li, .inr (4, [h_li_0, .ref h_el, .int (nI PP.length)])), (h_A, .inr (5, [.ref h_li, .ref (pad AL 0)])), (h_mp, .inl (k_mp, 36, .inl mp)), (h_S, .inr (11, [.ref h_A, h_S_1, h_S_2, .ref h_mp, h_S_4, h_S_5, h_S_6, h_S_7, h_S_8, h_S_9]))] ++ pgl kI AL PP) H ∧ va_D A ([(h_wc, .inl (k_wc, 36, .inl t.2)), (h_W, .inr (12, [.ref h_wc, h_W_1])), (h_el, .inl (k_el, capE, .inr (.inr (.inr (.inr (egl AL)))))), (h_li, .inr (4, [h_li_0, .ref h_el, .int (nI PP.length)])), (h_A, .inr (5, [.ref h_li, .ref (pad AL 0)])), (h_mp, .inl (k_mp, 36, .inl mp)), (h_S, .inr (11, [.ref h_A, h_S_1, h_S_2, .ref h_mp, h_S_4, h_S_5, h_S_6, h_S_7, h_S_8, h_S_9]))] ++ pgl kI AL PP) ∧ va_S A s.heap H locs ∧ lv_has ls 7 [(3, .int t.1), (0, .ref h_W), (1, .ref h_S), (2, .int a2)] ∧ F_X9_takeMap wc PP mp a2 = (K_X9_takeMap_2 (L_X9_takeMap_2 PP mp a2 k t.1 t.2)) ∧ c9 = 0 ∧ s9 = 0) (fun t H locs ls c9 s9 h9 => absurd h9.1 (Nat.not_lt_zero _)) (fun k_1 ih t H locs ls c9 s9 hI => ?_) (((6 : Int32).toInt - (0 : Int32).toInt).toNat + 1) (0, wc) ⟨Nat.lt_succ_self _, (show 0 ≤ (0 : Int32).toInt from (by decide +kernel)), hP, hD, hS, (by exact hl), hM, rfl, rfl⟩
  obtain ⟨x2_3, x2_h_wc⟩ := t
  obtain ⟨hk_1, hz_1, hP, hD, hS, hl, hM, hcs, hss⟩ := hI
  replace hcs := hcs.symm
  subst hcs
  replace hss := hss.symm
  subst hss
  have hP : va_P D vwCl ([(h_wc, .inl (k_wc, 36, .inl x2_h_wc)), (h_W, .inr (12, [.ref h_wc, h_W_1])), (h_el, .inl (k_el, capE, .inr (.inr (.inr (.inr (egl AL)))))), (h_li, .inr (4, [h_li_0, .ref h_el, .int (nI PP.length)])), (h_A, .inr (5, [.ref h_li, .ref (pad AL 0)])), (h_mp, .inl (k_mp, 36, .inl mp)), (h_S, .inr (11, [.ref h_A, h_S_1, h_S_2, .ref h_mp, h_S_4, h_S_5, h_S_6, h_S_7, h_S_8, h_S_9]))] ++ pgl kI AL PP) H := hP
  have hD : va_D A ([(h_wc, .inl (k_wc, 36, .inl x2_h_wc)), (h_W, .inr (12, [.ref h_wc, h_W_1])), (h_el, .inl (k_el, capE, .inr (.inr (.inr (.inr (egl AL)))))), (h_li, .inr (4, [h_li_0, .ref h_el, .int (nI PP.length)])), (h_A, .inr (5, [.ref h_li, .ref (pad AL 0)])), (h_mp, .inl (k_mp, 36, .inl mp)), (h_S, .inr (11, [.ref h_A, h_S_1, h_S_2, .ref h_mp, h_S_4, h_S_5, h_S_6, h_S_7, h_S_8, h_S_9]))] ++ pgl kI AL PP) := hD
  have hl : lv_has ls 7 [(3, .int x2_3), (0, .ref h_W), (1, .ref h_S), (2, .int a2)] := hl
  have hz_1 : 0 ≤ (x2_3 : Int32).toInt := hz_1
  have hk_1 : ((6 : Int32).toInt - (x2_3 : Int32).toInt).toNat < k_1 + 1 := hk_1
  have hM : F_X9_takeMap wc PP mp a2 = (K_X9_takeMap_2 ((if 6 ≤ x2_3 then (x2_3, x2_h_wc) else (K_X9_takeMap_19 x2_3 (L_X9_takeMap_2 PP mp a2 k_1) (L_X9_takeMap_19 PP mp a2 x2_3 (((6 : Int32).toInt - (0 : Int32).toInt).toNat + 1) 0 x2_h_wc))))) := hM
  have ih_1 := ih
  refine lv_iload_n hx hb dX9_takeMap_2 rfl (lv_at hl 0 rfl) ?_
  refine lv_bipush (v := 6) hx hb dX9_takeMap_3 (by decide) ?_
  refine lv_icmp_ge (tgt := 87) hx hb dX9_takeMap_5 (by decide) (fun c_2 => ?_) (fun c_2 => ?_)
  · rw [if_pos c_2] at hM
    have hM : F_X9_takeMap wc PP mp a2 = x2_h_wc := hM
    refine W.widen (k := 0) (n := 0) (Nat.le_of_ble_eq_true rfl) (Nat.le_of_ble_eq_true rfl) ?_
    exact W.vret hx hb hr (QG_.mk (fun _ => 0) (fun _ => 0) (fun _ => 0) ([0, 1, 2, 3, 4, 5, 6] ++ (tl_ 7 (pgl kI AL PP))) [0, 1, 2, 3] hP hD hK hS rfl trivial (by rw [hM]; exact tl_C [0, 1, 2, 3, 4, 5, 6] rfl rfl) (tl_nd [0, 1, 2, 3, 4, 5, 6] (by decide) (by decide)) rfl) hS.2.2 dX9_takeMap_87
  · rw [if_neg c_2] at hM
    refine lv_aload_n hx hb dX9_takeMap_8 rfl (lv_at hl 2 rfl) ?_
    refine lv_iload_n hx hb dX9_takeMap_9 rfl (lv_at hl 3 rfl) ?_
    refine lv_iload_n hx hb dX9_takeMap_10 rfl (lv_at hl 0 rfl) ?_
    obtain ⟨y9, hy9⟩ : ∃ y9, (F_X8_pageIn PP mp a2 x2_3) = y9 := ⟨_, rfl⟩
    have hcon := (c_X8_pageIn l hl0 D ad H.size h_el h_li h_A h_mp h_S k_el k_mp (h_li_0) (h_S_1) (h_S_2) (h_S_4) (h_S_5) (h_S_6) (h_S_7) (h_S_8) (h_S_9) kI AL PP capE mp a2 x2_3 hlen hpos hbig (by have y0 := f_nle c_2; have z0 := hy0; have z1 := hz_1; have e_6 : (6 : Int32).toInt = 6 := (by decide +kernel); have q_len := hlen; have q_pos := hpos; have q_big := hbig; have q_n := nI_toInt (n := PP.length) (by omega); omega))
    rw [hy9] at hcon
    refine kr_ (va_runV (As := [.int a2, .int x2_3]) (rest := []) ⟨hx, hb, hml, hown, hts⟩ hcon (cwV 2 hts gX9_takeMap_X8_pageIn rfl rfl rfl (by decide +kernel) ⟨Nat.le_of_ble_eq_true rfl, Nat.le_of_ble_eq_true rfl⟩) ⟨PR_.blind, va_recv hK hP (ci := 11) (q0 := 6) rfl rfl, PR_.pre hF hK (hP.part [2, 3, 4, 5, 6] rfl) hS hA [1, 2, 3] rfl⟩ rfl rfl hl.1 rfl (lv_room (Nat.le_of_ble_eq_true rfl)) dX9_takeMap_11 ⟨(Nat.le_of_ble_eq_true rfl), (Nat.le_of_ble_eq_true rfl)⟩) hP hS hA (fun H locs hP hS => ?_)
    subst hy9
    refine W.eq (g2 := F0 m 14 ls [.ref (pad AL (F_X8_pageIn PP mp a2 x2_3))]) rfl ?_
    refine lv_astore (lv' := [(4, .ref (pad AL (F_X8_pageIn PP mp a2 x2_3))), (3, .int x2_3), (0, .ref h_W), (1, .ref h_S), (2, .int a2)]) hx hb dX9_takeMap_14 hl (by decide) rfl (fun ls hl => ?_)
    refine lv_iconst (v := 0) hx hb dX9_takeMap_16 (by decide) ?_
    refine lv_istore (lv' := [(5, .int 0), (4, .ref (pad AL (F_X8_pageIn PP mp a2 x2_3))), (3, .int x2_3), (0, .ref h_W), (1, .ref h_S), (2, .int a2)]) hx hb dX9_takeMap_17 hl (by decide) rfl (fun ls hl => ?_)
    refine lpW (τ := Int32 × (Nat → Int32)) (fun k t H locs ls c9 s9 => ((6 : Int32).toInt - (t.1 : Int32).toInt).toNat < k ∧ 0 ≤ (t.1 : Int32).toInt ∧ va_P D vwCl ([(h_wc, .inl (k_wc, 36, .inl t.2)), (h_W, .inr (12, [.ref h_wc, h_W_1])), (h_el, .inl (k_el, capE, .inr (.inr (.inr (.inr (egl AL)))))), (h_li, .inr (4, [h_li_0, .ref h_el, .int (nI PP.length)])), (h_A, .inr (5, [.ref h_li, .ref (pad AL 0)])), (h_mp, .inl (k_mp, 36, .inl mp)), (h_S, .inr (11, [.ref h_A, h_S_1, h_S_2, .ref h_mp, h_S_4, h_S_5, h_S_6, h_S_7, h_S_8, h_S_9]))] ++ pgl kI AL PP) H ∧ va_D A ([(h_wc, .inl (k_wc, 36, .inl t.2)), (h_W, .inr (12, [.ref h_wc, h_W_1])), (h_el, .inl (k_el, capE, .inr (.inr (.inr (.inr (egl AL)))))), (h_li, .inr (4, [h_li_0, .ref h_el, .int (nI PP.length)])), (h_A, .inr (5, [.ref h_li, .ref (pad AL 0)])), (h_mp, .inl (k_mp, 36, .inl mp)), (h_S, .inr (11, [.ref h_A, h_S_1, h_S_2, .ref h_mp, h_S_4, h_S_5, h_S_6, h_S_7, h_S_8, h_S_9]))] ++ pgl kI AL PP) ∧ va_S A s.heap H locs ∧ lv_has ls 7 [(5, .int t.1), (4, .ref (pad AL (F_X8_pageIn PP mp a2 x2_3))), (3, .int x2_3), (0, .ref h_W), (1, .ref h_S), (2, .int a2)] ∧ F_X9_takeMap wc PP mp a2 = (K_X9_takeMap_2 ((K_X9_takeMap_19 x2_3 (L_X9_takeMap_2 PP mp a2 k_1) (L_X9_takeMap_19 PP mp a2 x2_3 k t.1 t.2)))) ∧ c9 = 0 ∧ s9 = 0) (fun t H locs ls c9 s9 h9 => absurd h9.1 (Nat.not_lt_zero _)) (fun k_4 ih t H locs ls c9 s9 hI => ?_) (((6 : Int32).toInt - (0 : Int32).toInt).toNat + 1) (0, x2_h_wc) ⟨Nat.lt_succ_self _, (show 0 ≤ (0 : Int32).toInt from (by decide +kernel)), hP, hD, hS, (by exact hl), hM, rfl, rfl⟩
    obtain ⟨x19_5, x19_h_wc⟩ := t
    obtain ⟨hk_4, hz_4, hP, hD, hS, hl, hM, hcs, hss⟩ := hI
    replace hcs := hcs.symm
    subst hcs
    replace hss := hss.symm
    subst hss
    have hP : va_P D vwCl ([(h_wc, .inl (k_wc, 36, .inl x19_h_wc)), (h_W, .inr (12, [.ref h_wc, h_W_1])), (h_el, .inl (k_el, capE, .inr (.inr (.inr (.inr (egl AL)))))), (h_li, .inr (4, [h_li_0, .ref h_el, .int (nI PP.length)])), (h_A, .inr (5, [.ref h_li, .ref (pad AL 0)])), (h_mp, .inl (k_mp, 36, .inl mp)), (h_S, .inr (11, [.ref h_A, h_S_1, h_S_2, .ref h_mp, h_S_4, h_S_5, h_S_6, h_S_7, h_S_8, h_S_9]))] ++ pgl kI AL PP) H := hP
    have hD : va_D A ([(h_wc, .inl (k_wc, 36, .inl x19_h_wc)), (h_W, .inr (12, [.ref h_wc, h_W_1])), (h_el, .inl (k_el, capE, .inr (.inr (.inr (.inr (egl AL)))))), (h_li, .inr (4, [h_li_0, .ref h_el, .int (nI PP.length)])), (h_A, .inr (5, [.ref h_li, .ref (pad AL 0)])), (h_mp, .inl (k_mp, 36, .inl mp)), (h_S, .inr (11, [.ref h_A, h_S_1, h_S_2, .ref h_mp, h_S_4, h_S_5, h_S_6, h_S_7, h_S_8, h_S_9]))] ++ pgl kI AL PP) := hD
    have hl : lv_has ls 7 [(5, .int x19_5), (4, .ref (pad AL (F_X8_pageIn PP mp a2 x2_3))), (3, .int x2_3), (0, .ref h_W), (1, .ref h_S), (2, .int a2)] := hl
    have hz_4 : 0 ≤ (x19_5 : Int32).toInt := hz_4
    have hk_4 : ((6 : Int32).toInt - (x19_5 : Int32).toInt).toNat < k_4 + 1 := hk_4
    have hM : F_X9_takeMap wc PP mp a2 = (K_X9_takeMap_2 ((K_X9_takeMap_19 x2_3 (L_X9_takeMap_2 PP mp a2 k_1) ((if 6 ≤ x19_5 then (x19_5, x19_h_wc) else (if (F_X6_costTo ((pgd PP (F_X8_pageIn PP mp a2 x19_5)).2.2.2) x2_3) ≤ 0 then ((L_X9_takeMap_19 PP mp a2 x2_3 k_4) (x19_5 + 1) (upd x19_h_wc (ix ((x2_3 * 6) + x19_5)) 0)) else ((L_X9_takeMap_19 PP mp a2 x2_3 k_4) (x19_5 + 1) (upd x19_h_wc (ix ((x2_3 * 6) + x19_5)) (F_X6_costTo ((pgd PP (F_X8_pageIn PP mp a2 x2_3)).2.2.2) x19_5))))))))) := hM
    have ih_4 := ih
    refine lv_iload hx hb dX9_takeMap_19 (lv_at hl 0 rfl) ?_
    refine lv_bipush (v := 6) hx hb dX9_takeMap_21 (by decide) ?_
    refine lv_icmp_ge (tgt := 81) hx hb dX9_takeMap_23 (by decide) (fun c_5 => ?_) (fun c_5 => ?_)
    · rw [if_pos c_5] at hM
      have hM : F_X9_takeMap wc PP mp a2 = (K_X9_takeMap_2 (((L_X9_takeMap_2 PP mp a2 k_1) (x2_3 + 1) x19_h_wc))) := hM
      refine lv_iinc (v := (x2_3 + 1)) (lv' := [(3, .int (x2_3 + 1)), (5, .int x19_5), (4, .ref (pad AL (F_X8_pageIn PP mp a2 x2_3))), (0, .ref h_W), (1, .ref h_S), (2, .int a2)]) hx hb dX9_takeMap_81 hl (k := 2) rfl rfl (by decide) rfl (fun ls hl => ?_)
      refine lv_goto (tgt := 2) hx hb dX9_takeMap_84 (by decide) ?_
      exact ih_1 ((x2_3 + 1), x19_h_wc) _ _ _ _ _ ⟨lp_up hk_1 c_2, lp_up0 hz_1 c_2, hP, hD, hS, lv_sub hl [0, 3, 4, 5] rfl, hM, rfl, rfl⟩
    · rw [if_neg c_5] at hM
      refine lv_aload_n hx hb dX9_takeMap_26 rfl (lv_at hl 4 rfl) ?_
      refine lv_iload_n hx hb dX9_takeMap_27 rfl (lv_at hl 5 rfl) ?_
      refine lv_iload hx hb dX9_takeMap_28 (lv_at hl 0 rfl) ?_
      obtain ⟨y9, hy9⟩ : ∃ y9, (F_X8_pageIn PP mp a2 x19_5) = y9 := ⟨_, rfl⟩
      have hcon := (c_X8_pageIn l hl0 D ad H.size h_el h_li h_A h_mp h_S k_el k_mp (h_li_0) (h_S_1) (h_S_2) (h_S_4) (h_S_5) (h_S_6) (h_S_7) (h_S_8) (h_S_9) kI AL PP capE mp a2 x19_5 hlen hpos hbig (by have y0 := f_nle c_2; have y1 := f_nle c_5; have z0 := hy0; have z1 := hz_1; have z2 := hz_4; have e_6 : (6 : Int32).toInt = 6 := (by decide +kernel); have q_len := hlen; have q_pos := hpos; have q_big := hbig; have q_n := nI_toInt (n := PP.length) (by omega); omega))
      rw [hy9] at hcon
      refine kr_ (va_runV (As := [.int a2, .int x19_5]) (rest := []) ⟨hx, hb, hml, hown, hts⟩ hcon (cwV 2 hts gX9_takeMap_X8_pageIn rfl rfl rfl (by decide +kernel) ⟨Nat.le_of_ble_eq_true rfl, Nat.le_of_ble_eq_true rfl⟩) ⟨PR_.blind, va_recv hK hP (ci := 11) (q0 := 6) rfl rfl, PR_.pre hF hK (hP.part [2, 3, 4, 5, 6] rfl) hS hA [1, 2, 3] rfl⟩ rfl rfl hl.1 rfl (lv_room (Nat.le_of_ble_eq_true rfl)) dX9_takeMap_30 ⟨(Nat.le_of_ble_eq_true rfl), (Nat.le_of_ble_eq_true rfl)⟩) hP hS hA (fun H locs hP hS => ?_)
      subst hy9
      refine W.eq (g2 := F0 m 33 ls [.ref (pad AL (F_X8_pageIn PP mp a2 x19_5))]) rfl ?_
      refine lv_iload_n hx hb dX9_takeMap_33 rfl (lv_at hl 2 rfl) ?_
      have hPg := pgw (k := (F_X8_pageIn PP mp a2 x19_5)) hP hlen (by have y0 := f_nle c_2; have y1 := f_nle c_5; have z0 := hy0; have z1 := hz_1; have z2 := hz_4; have e_6 : (6 : Int32).toInt = 6 := (by decide +kernel); have rn_X8_pageIn := R_X8_pageIn PP mp a2 x19_5 hpos hbig; have q_len := hlen; have q_pos := hpos; have q_big := hbig; have q_n := nI_toInt (n := PP.length) (by omega); omega)
      obtain ⟨y9, hy9⟩ : ∃ y9, (F_X6_costTo ((pgd PP (F_X8_pageIn PP mp a2 x19_5)).2.2.2) x2_3) = y9 := ⟨_, rfl⟩
      have hcon := (c_X6_costTo l hl0 D ad H.size (qad AL (F_X8_pageIn PP mp a2 x19_5)) (pad AL (F_X8_pageIn PP mp a2 x19_5)) kI (.int (pgd PP (F_X8_pageIn PP mp a2 x19_5)).1) (.int (pgd PP (F_X8_pageIn PP mp a2 x19_5)).2.1) (.int (pgd PP (F_X8_pageIn PP mp a2 x19_5)).2.2.1) ((pgd PP (F_X8_pageIn PP mp a2 x19_5)).2.2.2) x2_3)
      rw [hy9] at hcon
      refine kr_ (va_runV (As := [.int x2_3]) (rest := []) ⟨hx, hb, hml, hown, hts⟩ hcon (cwV 1 hts gX9_takeMap_X6_costTo rfl rfl rfl (by decide +kernel) ⟨Nat.le_of_ble_eq_true rfl, Nat.le_of_ble_eq_true rfl⟩) ⟨PR_.blind, va_recv hK hPg (ci := 9) (q0 := 0) rfl rfl, PR_.pre hF hK (hPg.sub [1, 0] rfl) hS hA [3] rfl⟩ rfl rfl hl.1 rfl (lv_room (Nat.le_of_ble_eq_true rfl)) dX9_takeMap_34 ⟨(Nat.le_of_ble_eq_true rfl), (Nat.le_of_ble_eq_true rfl)⟩) hP hS hA (fun H locs hP hS => ?_)
      subst hy9
      refine W.eq (g2 := F0 m 37 ls [.int (F_X6_costTo ((pgd PP (F_X8_pageIn PP mp a2 x19_5)).2.2.2) x2_3)]) rfl ?_
      refine lv_if_le (tgt := 44) hx hb dX9_takeMap_37 (by decide) (fun c_8 => ?_) (fun c_8 => ?_)
      · rw [if_pos c_8] at hM
        refine lv_iconst (v := 0) hx hb dX9_takeMap_44 (by decide) ?_
        refine lv_istore (lv' := [(6, .int 0), (5, .int x19_5), (4, .ref (pad AL (F_X8_pageIn PP mp a2 x2_3))), (3, .int x2_3), (0, .ref h_W), (1, .ref h_S), (2, .int a2)]) hx hb dX9_takeMap_45 hl (by decide) rfl (fun ls hl => ?_)
        refine lv_aload_n hx hb dX9_takeMap_47 rfl (lv_at hl 4 rfl) ?_
        refine va_get (D := D) (ci := 12) (v := .ref h_wc) (own := RX9) (C := RX9) (T := TX9) (N := 2) hx hb hts hi_X9 hown hK hP 1 rfl rfl 0 (by decide) (hts (.fieldLink RX9 9 "CanalMaps$Ways" "costs" "[I") (List.mem_of_getElem? (i := 1) (by decide +kernel))) (fun _ h9 => h9) rfl dX9_takeMap_48 ?_
        refine lv_iload_n hx hb dX9_takeMap_51 rfl (lv_at hl 3 rfl) ?_
        refine lv_bipush (v := 6) hx hb dX9_takeMap_52 (by decide) ?_
        refine lv_imul hx hb dX9_takeMap_54 ?_
        refine lv_iload hx hb dX9_takeMap_55 (lv_at hl 1 rfl) ?_
        refine lv_iadd hx hb dX9_takeMap_57 ?_
        refine lv_iload hx hb dX9_takeMap_58 (lv_at hl 0 rfl) ?_
        refine lv_if_eq (tgt := 73) hx hb dX9_takeMap_60 (by decide) (fun _ => ?_) (fun c9 => absurd (by decide +kernel) c9)
        refine lv_iconst (v := 0) hx hb dX9_takeMap_73 (by decide) ?_
        refine ka_iast (g := (upd x19_h_wc (ix ((x2_3 * 6) + x19_5)) 0)) hx hb hK hP hD hS 0 0 rfl rfl (vinI (by have y0 := f_nle c_2; have y1 := f_nle c_5; have y2 := f_le c_8; have z0 := hy0; have z1 := hz_1; have z2 := hz_4; have e_0 : (0 : Int32).toInt = 0 := (by decide +kernel); have e_6 : (6 : Int32).toInt = 6 := (by decide +kernel); have rn_X8_pageIn := R_X8_pageIn PP mp a2 x19_5 hpos hbig; have b631 := Int32.toInt_lt (x2_3); have d631 := Int32.le_toInt (x2_3); have b632 := Int32.toInt_lt (x19_5); have d632 := Int32.le_toInt (x19_5); have q625 := ix6 (a := x2_3) (b := x19_5) (by omega) (by omega) (by omega) (by omega); have q_len := hlen; have q_pos := hpos; have q_big := hbig; have q_n := nI_toInt (n := PP.length) (by omega); omega) (by have y0 := f_nle c_2; have y1 := f_nle c_5; have y2 := f_le c_8; have z0 := hy0; have z1 := hz_1; have z2 := hz_4; have e_0 : (0 : Int32).toInt = 0 := (by decide +kernel); have e_6 : (6 : Int32).toInt = 6 := (by decide +kernel); have rn_X8_pageIn := R_X8_pageIn PP mp a2 x19_5 hpos hbig; have b631 := Int32.toInt_lt (x2_3); have d631 := Int32.le_toInt (x2_3); have b632 := Int32.toInt_lt (x19_5); have d632 := Int32.le_toInt (x19_5); have q625 := ix6 (a := x2_3) (b := x19_5) (by omega) (by omega) (by omega) (by omega); have q_len := hlen; have q_pos := hpos; have q_big := hbig; have q_n := nI_toInt (n := PP.length) (by omega); omega)) rfl dX9_takeMap_74 (fun H locs hP hD hS => ?_)
        have hP : va_P D vwCl ([(h_wc, .inl (k_wc, 36, .inl (upd x19_h_wc (ix ((x2_3 * 6) + x19_5)) 0))), (h_W, .inr (12, [.ref h_wc, h_W_1])), (h_el, .inl (k_el, capE, .inr (.inr (.inr (.inr (egl AL)))))), (h_li, .inr (4, [h_li_0, .ref h_el, .int (nI PP.length)])), (h_A, .inr (5, [.ref h_li, .ref (pad AL 0)])), (h_mp, .inl (k_mp, 36, .inl mp)), (h_S, .inr (11, [.ref h_A, h_S_1, h_S_2, .ref h_mp, h_S_4, h_S_5, h_S_6, h_S_7, h_S_8, h_S_9]))] ++ pgl kI AL PP) H := hP
        have hD : va_D A ([(h_wc, .inl (k_wc, 36, .inl (upd x19_h_wc (ix ((x2_3 * 6) + x19_5)) 0))), (h_W, .inr (12, [.ref h_wc, h_W_1])), (h_el, .inl (k_el, capE, .inr (.inr (.inr (.inr (egl AL)))))), (h_li, .inr (4, [h_li_0, .ref h_el, .int (nI PP.length)])), (h_A, .inr (5, [.ref h_li, .ref (pad AL 0)])), (h_mp, .inl (k_mp, 36, .inl mp)), (h_S, .inr (11, [.ref h_A, h_S_1, h_S_2, .ref h_mp, h_S_4, h_S_5, h_S_6, h_S_7, h_S_8, h_S_9]))] ++ pgl kI AL PP) := hD
        refine lv_iinc (v := (x19_5 + 1)) (lv' := [(5, .int (x19_5 + 1)), (6, .int 0), (4, .ref (pad AL (F_X8_pageIn PP mp a2 x2_3))), (3, .int x2_3), (0, .ref h_W), (1, .ref h_S), (2, .int a2)]) hx hb dX9_takeMap_75 hl (k := 1) rfl rfl (by decide) rfl (fun ls hl => ?_)
        refine lv_goto (tgt := 19) hx hb dX9_takeMap_78 (by decide) ?_
        exact ih_4 ((x19_5 + 1), (upd x19_h_wc (ix ((x2_3 * 6) + x19_5)) 0)) _ _ _ _ _ ⟨lp_up hk_4 c_5, lp_up0 hz_4 c_5, hP, hD, hS, lv_sub hl [0, 2, 3, 4, 5, 6] rfl, hM, rfl, rfl⟩
      · rw [if_neg c_8] at hM
        refine lv_iconst (v := 1) hx hb dX9_takeMap_40 (by decide) ?_
        refine lv_goto (tgt := 45) hx hb dX9_takeMap_41 (by decide) ?_
        refine lv_istore (lv' := [(6, .int 1), (5, .int x19_5), (4, .ref (pad AL (F_X8_pageIn PP mp a2 x2_3))), (3, .int x2_3), (0, .ref h_W), (1, .ref h_S), (2, .int a2)]) hx hb dX9_takeMap_45 hl (by decide) rfl (fun ls hl => ?_)
        refine lv_aload_n hx hb dX9_takeMap_47 rfl (lv_at hl 4 rfl) ?_
        refine va_get (D := D) (ci := 12) (v := .ref h_wc) (own := RX9) (C := RX9) (T := TX9) (N := 2) hx hb hts hi_X9 hown hK hP 1 rfl rfl 0 (by decide) (hts (.fieldLink RX9 9 "CanalMaps$Ways" "costs" "[I") (List.mem_of_getElem? (i := 1) (by decide +kernel))) (fun _ h9 => h9) rfl dX9_takeMap_48 ?_
        refine lv_iload_n hx hb dX9_takeMap_51 rfl (lv_at hl 3 rfl) ?_
        refine lv_bipush (v := 6) hx hb dX9_takeMap_52 (by decide) ?_
        refine lv_imul hx hb dX9_takeMap_54 ?_
        refine lv_iload hx hb dX9_takeMap_55 (lv_at hl 1 rfl) ?_
        refine lv_iadd hx hb dX9_takeMap_57 ?_
        refine lv_iload hx hb dX9_takeMap_58 (lv_at hl 0 rfl) ?_
        refine lv_if_eq (tgt := 73) hx hb dX9_takeMap_60 (by decide) (fun c9 => absurd c9 (by decide +kernel)) (fun _ => ?_)
        refine lv_aload hx hb dX9_takeMap_63 (lv_at hl 2 rfl) ?_
        refine lv_iload hx hb dX9_takeMap_65 (lv_at hl 1 rfl) ?_
        have hPg := pgw (k := (F_X8_pageIn PP mp a2 x2_3)) hP hlen (by have y0 := f_nle c_2; have y1 := f_nle c_5; have y2 := f_nle c_8; have z0 := hy0; have z1 := hz_1; have z2 := hz_4; have e_0 : (0 : Int32).toInt = 0 := (by decide +kernel); have e_6 : (6 : Int32).toInt = 6 := (by decide +kernel); have rn_X8_pageIn := R_X8_pageIn PP mp a2 x19_5 hpos hbig; have rn_X8_pageIn := R_X8_pageIn PP mp a2 x2_3 hpos hbig; have q_len := hlen; have q_pos := hpos; have q_big := hbig; have q_n := nI_toInt (n := PP.length) (by omega); omega)
        obtain ⟨y9, hy9⟩ : ∃ y9, (F_X6_costTo ((pgd PP (F_X8_pageIn PP mp a2 x2_3)).2.2.2) x19_5) = y9 := ⟨_, rfl⟩
        have hcon := (c_X6_costTo l hl0 D ad H.size (qad AL (F_X8_pageIn PP mp a2 x2_3)) (pad AL (F_X8_pageIn PP mp a2 x2_3)) kI (.int (pgd PP (F_X8_pageIn PP mp a2 x2_3)).1) (.int (pgd PP (F_X8_pageIn PP mp a2 x2_3)).2.1) (.int (pgd PP (F_X8_pageIn PP mp a2 x2_3)).2.2.1) ((pgd PP (F_X8_pageIn PP mp a2 x2_3)).2.2.2) x19_5)
        rw [hy9] at hcon
        refine kr_ (va_runV (As := [.int x19_5]) (rest := [.int ((x2_3 * 6) + x19_5), .ref h_wc]) ⟨hx, hb, hml, hown, hts⟩ hcon (cwV 1 hts gX9_takeMap_X6_costTo rfl rfl rfl (by decide +kernel) ⟨Nat.le_of_ble_eq_true rfl, Nat.le_of_ble_eq_true rfl⟩) ⟨PR_.blind, va_recv hK hPg (ci := 9) (q0 := 0) rfl rfl, PR_.pre hF hK (hPg.sub [1, 0] rfl) hS hA [3] rfl⟩ rfl rfl hl.1 rfl (lv_room (Nat.le_of_ble_eq_true rfl)) dX9_takeMap_67 ⟨(Nat.le_of_ble_eq_true rfl), (Nat.le_of_ble_eq_true rfl)⟩) hP hS hA (fun H locs hP hS => ?_)
        subst hy9
        refine W.eq (g2 := F0 m 70 ls [.int (F_X6_costTo ((pgd PP (F_X8_pageIn PP mp a2 x2_3)).2.2.2) x19_5), .int ((x2_3 * 6) + x19_5), .ref h_wc]) rfl ?_
        refine lv_goto (tgt := 74) hx hb dX9_takeMap_70 (by decide) ?_
        refine ka_iast (g := (upd x19_h_wc (ix ((x2_3 * 6) + x19_5)) (F_X6_costTo ((pgd PP (F_X8_pageIn PP mp a2 x2_3)).2.2.2) x19_5))) hx hb hK hP hD hS 0 0 rfl rfl (vinI (by have y0 := f_nle c_2; have y1 := f_nle c_5; have y2 := f_nle c_8; have z0 := hy0; have z1 := hz_1; have z2 := hz_4; have e_0 : (0 : Int32).toInt = 0 := (by decide +kernel); have e_6 : (6 : Int32).toInt = 6 := (by decide +kernel); have rn_X8_pageIn := R_X8_pageIn PP mp a2 x19_5 hpos hbig; have b639 := Int32.toInt_lt (x2_3); have d639 := Int32.le_toInt (x2_3); have b640 := Int32.toInt_lt (x19_5); have d640 := Int32.le_toInt (x19_5); have q633 := ix6 (a := x2_3) (b := x19_5) (by omega) (by omega) (by omega) (by omega); have q_len := hlen; have q_pos := hpos; have q_big := hbig; have q_n := nI_toInt (n := PP.length) (by omega); omega) (by have y0 := f_nle c_2; have y1 := f_nle c_5; have y2 := f_nle c_8; have z0 := hy0; have z1 := hz_1; have z2 := hz_4; have e_0 : (0 : Int32).toInt = 0 := (by decide +kernel); have e_6 : (6 : Int32).toInt = 6 := (by decide +kernel); have rn_X8_pageIn := R_X8_pageIn PP mp a2 x19_5 hpos hbig; have b639 := Int32.toInt_lt (x2_3); have d639 := Int32.le_toInt (x2_3); have b640 := Int32.toInt_lt (x19_5); have d640 := Int32.le_toInt (x19_5); have q633 := ix6 (a := x2_3) (b := x19_5) (by omega) (by omega) (by omega) (by omega); have q_len := hlen; have q_pos := hpos; have q_big := hbig; have q_n := nI_toInt (n := PP.length) (by omega); omega)) rfl dX9_takeMap_74 (fun H locs hP hD hS => ?_)
        have hP : va_P D vwCl ([(h_wc, .inl (k_wc, 36, .inl (upd x19_h_wc (ix ((x2_3 * 6) + x19_5)) (F_X6_costTo ((pgd PP (F_X8_pageIn PP mp a2 x2_3)).2.2.2) x19_5)))), (h_W, .inr (12, [.ref h_wc, h_W_1])), (h_el, .inl (k_el, capE, .inr (.inr (.inr (.inr (egl AL)))))), (h_li, .inr (4, [h_li_0, .ref h_el, .int (nI PP.length)])), (h_A, .inr (5, [.ref h_li, .ref (pad AL 0)])), (h_mp, .inl (k_mp, 36, .inl mp)), (h_S, .inr (11, [.ref h_A, h_S_1, h_S_2, .ref h_mp, h_S_4, h_S_5, h_S_6, h_S_7, h_S_8, h_S_9]))] ++ pgl kI AL PP) H := hP
        have hD : va_D A ([(h_wc, .inl (k_wc, 36, .inl (upd x19_h_wc (ix ((x2_3 * 6) + x19_5)) (F_X6_costTo ((pgd PP (F_X8_pageIn PP mp a2 x2_3)).2.2.2) x19_5)))), (h_W, .inr (12, [.ref h_wc, h_W_1])), (h_el, .inl (k_el, capE, .inr (.inr (.inr (.inr (egl AL)))))), (h_li, .inr (4, [h_li_0, .ref h_el, .int (nI PP.length)])), (h_A, .inr (5, [.ref h_li, .ref (pad AL 0)])), (h_mp, .inl (k_mp, 36, .inl mp)), (h_S, .inr (11, [.ref h_A, h_S_1, h_S_2, .ref h_mp, h_S_4, h_S_5, h_S_6, h_S_7, h_S_8, h_S_9]))] ++ pgl kI AL PP) := hD
        refine lv_iinc (v := (x19_5 + 1)) (lv' := [(5, .int (x19_5 + 1)), (6, .int 1), (4, .ref (pad AL (F_X8_pageIn PP mp a2 x2_3))), (3, .int x2_3), (0, .ref h_W), (1, .ref h_S), (2, .int a2)]) hx hb dX9_takeMap_75 hl (k := 1) rfl rfl (by decide) rfl (fun ls hl => ?_)
        refine lv_goto (tgt := 19) hx hb dX9_takeMap_78 (by decide) ?_
        exact ih_4 ((x19_5 + 1), (upd x19_h_wc (ix ((x2_3 * 6) + x19_5)) (F_X6_costTo ((pgd PP (F_X8_pageIn PP mp a2 x2_3)).2.2.2) x19_5))) _ _ _ _ _ ⟨lp_up hk_4 c_5, lp_up0 hz_4 c_5, hP, hD, hS, lv_sub hl [0, 2, 3, 4, 5, 6] rfl, hM, rfl, rfl⟩
def B_X9_nearestFirst_42 (wc : Nat → Int32) (x10_2 : Int32) (x10_h_wd : Nat → Int32) (rc_42 : Int32 → (Nat → Int32) → (Int32 × (Nat → Int32))) (x42_5 : Int32) (x42_h_wd : Nat → Int32) : Int32 × (Nat → Int32) := (if 6 ≤ x42_5 then (x42_5, x42_h_wd) else (rc_42 (x42_5 + 1) ((F_X9_shorten wc x42_h_wd (F_X9_nearestOf x10_h_wd x10_2) x42_5).2)))
def L_X9_nearestFirst_42 (wc : Nat → Int32) (x10_2 : Int32) (x10_h_wd : Nat → Int32) : Nat → Int32 → (Nat → Int32) → (Int32 × (Nat → Int32))
  | 0 => fun x42_5 x42_h_wd => (x42_5, x42_h_wd)
  | k + 1 => B_X9_nearestFirst_42 wc x10_2 x10_h_wd (L_X9_nearestFirst_42 wc x10_2 x10_h_wd k)
def K_X9_nearestFirst_42 (x10_2 : Int32) (x10_3 : Int32) (x10_h_wd : Nat → Int32) (rc_10 : Int32 → Int32 → (Nat → Int32) → (Option ((Nat → Int32)) × Int32 × Int32 × (Nat → Int32))) : (Int32 × (Nat → Int32)) → (Option ((Nat → Int32)) × Int32 × Int32 × (Nat → Int32))
  | (x42_5, x42_h_wd) => (rc_10 (x10_2 &&& ((1 <<< ((F_X9_nearestOf x10_h_wd x10_2) &&& 31)) ^^^ (-1))) (x10_3 + 1) x42_h_wd)
def B_X9_nearestFirst_10 (wc : Nat → Int32) (rc_10 : Int32 → Int32 → (Nat → Int32) → (Option ((Nat → Int32)) × Int32 × Int32 × (Nat → Int32))) (x10_2 : Int32) (x10_3 : Int32) (x10_h_wd : Nat → Int32) : Option ((Nat → Int32)) × Int32 × Int32 × (Nat → Int32) := (if 6 ≤ x10_3 then (none, x10_2, x10_3, x10_h_wd) else (if (F_X9_nearestOf x10_h_wd x10_2) = (-1) then ((some x10_h_wd), x10_2, x10_3, x10_h_wd) else (K_X9_nearestFirst_42 x10_2 x10_3 x10_h_wd rc_10 (L_X9_nearestFirst_42 wc x10_2 x10_h_wd (((6 : Int32).toInt - (0 : Int32).toInt).toNat + 1) 0 x10_h_wd))))
def L_X9_nearestFirst_10 (wc : Nat → Int32) : Nat → Int32 → Int32 → (Nat → Int32) → (Option ((Nat → Int32)) × Int32 × Int32 × (Nat → Int32))
  | 0 => fun x10_2 x10_3 x10_h_wd => (none, x10_2, x10_3, x10_h_wd)
  | k + 1 => B_X9_nearestFirst_10 wc (L_X9_nearestFirst_10 wc k)
def K_X9_nearestFirst_10  : (Option ((Nat → Int32)) × Int32 × Int32 × (Nat → Int32)) → ((Nat → Int32))
  | (some r9, _, _, _) => r9
  | (none, x10_2, x10_3, x10_h_wd) => x10_h_wd
def F_X9_nearestFirst (wc : Nat → Int32) (wd : Nat → Int32) (a1 : Int32) : (Nat → Int32) := (K_X9_nearestFirst_10 (L_X9_nearestFirst_10 wc (((6 : Int32).toInt - (0 : Int32).toInt).toNat + 1) 63 0 (F_X9_begin wd a1)))
set_option maxHeartbeats 4000000 in
set_option maxRecDepth 100000 in
theorem c_X9_nearestFirst (l : Launch) (hl0 : l.stackTraces = false) (D : va_G) (ad : Nat → Nat) (sz : Nat) (h_wc : Nat) (h_wd : Nat) (h_W : Nat) (k_wc : ClassId) (k_wd : ClassId) (wc : Nat → Int32) (wd : Nat → Int32) (a1 : Int32) : Met l yX9_nearestFirst wsX9_nearestFirst ({ frames := 2, cells := 0, slots := 0, locals := 48 }) (PC_ D ad [(h_wc, .inl (k_wc, 36, .inl wc)), (h_wd, .inl (k_wd, 6, .inl wd)), (h_W, .inr (12, [.ref h_wc, .ref h_wd]))] [(k_wc, .int), (k_wd, .int)] sz [.ref h_W, .int a1]) (QG_ D (fun q i => none) (fun q i => True) (fun q k i => [(h_wc, .inl (k_wc, 36, .inl wc)), (h_wd, .inl (k_wd, 6, .inl (F_X9_nearestFirst wc wd a1))), (h_W, .inr (12, [.ref h_wc, .ref h_wd]))]) (fun q k i => [(k_wc, .int), (k_wd, .int)]) (va_A [(h_wc, .inl (k_wc, 36, .inl wc)), (h_wd, .inl (k_wd, 6, .inl wd)), (h_W, .inr (12, [.ref h_wc, .ref h_wd]))] sz)) 0 0 (va_A [(h_wc, .inl (k_wc, 36, .inl wc)), (h_wd, .inl (k_wd, 6, .inl wd)), (h_W, .inr (12, [.ref h_wc, .ref h_wd]))] sz) := by
  refine Met.ofW (cc := cX9_nearestFirst) (maxL := 6) (ret := none) (by decide) rfl ?_
  intro p e s m args below meth c s₁ B hml hv
  obtain ⟨rfl, hsz, hP, hK, hD0, hF⟩ := hv
  have hx := B.exec
  have hb := B.bytes
  have hr := B.returns
  have hts := atoms_spec (ws := wsX9_nearestFirst) B.pre
  have hown : s.vm.findClass RX9 = some m.cls := findClass_of_methodNamed B.named
  have hlocks := B.notSynchronized
  subst hsz
  have hD := hD0.self (sz := s.heap.size)
  generalize hAe : va_A [(h_wc, .inl (k_wc, 36, .inl wc)), (h_wd, .inl (k_wd, 6, .inl wd)), (h_W, .inr (12, [.ref h_wc, .ref h_wd]))] s.heap.size = A at hD hF ⊢
  have hA : ∀ q : Nat, s.heap.size ≤ q → A q := fun q h => by rw [← hAe]; exact Or.inr h
  obtain ⟨H, hHe⟩ : ∃ H : Heap, H = s.heap := ⟨_, rfl⟩
  have hS : va_S A s.heap H [] := by rw [hHe]; exact va_S.rf
  have hP : va_P D vwCl [(h_wc, .inl (k_wc, 36, .inl wc)), (h_wd, .inl (k_wd, 6, .inl wd)), (h_W, .inr (12, [.ref h_wc, .ref h_wd]))] H := by rw [hHe]; exact hP
  rw [← hHe]
  have hl := lv_entry [.ref h_W, .int a1] (n := 6) (Nat.le_of_ble_eq_true rfl)
  rw [lg_entry_eq]
  generalize (lg_sl [.ref h_W, .int a1] ++ List.replicate (6 - (lg_sl [.ref h_W, .int a1]).length) Slot.unset).toArray = ls at hl ⊢
  have hl : lv_has ls 6 [(0, .ref h_W), (1, .int a1)] := hl
  have hM : F_X9_nearestFirst wc wd a1 = (K_X9_nearestFirst_10 (L_X9_nearestFirst_10 wc (((6 : Int32).toInt - (0 : Int32).toInt).toNat + 1) 63 0 (F_X9_begin wd a1))) := rfl
  refine lv_aload_n hx hb dX9_nearestFirst_0 rfl (lv_at hl 0 rfl) ?_
  refine lv_iload_n hx hb dX9_nearestFirst_1 rfl (lv_at hl 1 rfl) ?_
  obtain ⟨y9, hy9⟩ : ∃ y9, (F_X9_begin wd a1) = y9 := ⟨_, rfl⟩
  have hcon := (c_X9_begin l hl0 D ad H.size h_wd h_W k_wd (.ref h_wc) wd a1)
  rw [hy9] at hcon
  refine kc_ (wc := [(h_wd, .inl (k_wd, 6, .inl wd)), (h_W, .inr (12, [.ref h_wc, .ref h_wd]))]) (wr := [(h_wc, .inl (k_wc, 36, .inl wc))]) (va_runV (As := [.int a1]) (rest := []) ⟨hx, hb, hml, hown, hts⟩ hcon (cwV 1 hts gX9_nearestFirst_X9_begin rfl rfl rfl (by decide +kernel) ⟨Nat.le_of_ble_eq_true rfl, Nat.le_of_ble_eq_true rfl⟩) ⟨PC_.blind, va_recv hK hP (ci := 12) (q0 := 2) rfl rfl, PC_.pre hF hK hP hD hS hA [1, 2] [1] rfl (by decide) rfl⟩ rfl rfl hl.1 rfl (lv_room (Nat.le_of_ble_eq_true rfl)) dX9_nearestFirst_2 ⟨(Nat.le_of_ble_eq_true rfl), (Nat.le_of_ble_eq_true rfl)⟩) hK hP hD hS hA [1, 2] [0] [0] rfl rfl (by decide) (by decide) rfl (fun qa_1 ka_1 ia H locs hpo hP hD hK hS => ?_)
  subst hy9
  have hP : va_P D vwCl [(h_wc, .inl (k_wc, 36, .inl wc)), (h_wd, .inl (k_wd, 6, .inl (F_X9_begin wd a1))), (h_W, .inr (12, [.ref h_wc, .ref h_wd]))] H := hP
  have hD : va_D A [(h_wc, .inl (k_wc, 36, .inl wc)), (h_wd, .inl (k_wd, 6, .inl (F_X9_begin wd a1))), (h_W, .inr (12, [.ref h_wc, .ref h_wd]))] := hD
  have hK : va_K D vwCl [(k_wc, .int), (k_wd, .int)] s := hK
  refine W.eq (g2 := F0 m 5 ls []) rfl ?_
  refine lv_bipush (v := 63) hx hb dX9_nearestFirst_5 (by decide) ?_
  refine lv_istore_n (lv' := [(2, .int 63), (0, .ref h_W), (1, .int a1)]) hx hb dX9_nearestFirst_7 rfl hl (by decide) rfl (fun ls hl => ?_)
  refine lv_iconst (v := 0) hx hb dX9_nearestFirst_8 (by decide) ?_
  refine lv_istore_n (lv' := [(3, .int 0), (2, .int 63), (0, .ref h_W), (1, .int a1)]) hx hb dX9_nearestFirst_9 rfl hl (by decide) rfl (fun ls hl => ?_)
  refine lpW (τ := Int32 × Int32 × (Nat → Int32)) (fun k t H locs ls c9 s9 => ((6 : Int32).toInt - (t.2.1 : Int32).toInt).toNat < k ∧ 0 ≤ (t.2.1 : Int32).toInt ∧ va_P D vwCl [(h_wc, .inl (k_wc, 36, .inl wc)), (h_wd, .inl (k_wd, 6, .inl t.2.2)), (h_W, .inr (12, [.ref h_wc, .ref h_wd]))] H ∧ va_D A [(h_wc, .inl (k_wc, 36, .inl wc)), (h_wd, .inl (k_wd, 6, .inl t.2.2)), (h_W, .inr (12, [.ref h_wc, .ref h_wd]))] ∧ va_S A s.heap H locs ∧ lv_has ls 6 [(3, .int t.2.1), (2, .int t.1), (0, .ref h_W), (1, .int a1)] ∧ F_X9_nearestFirst wc wd a1 = (K_X9_nearestFirst_10 (L_X9_nearestFirst_10 wc k t.1 t.2.1 t.2.2)) ∧ c9 = 0 ∧ s9 = 0) (fun t H locs ls c9 s9 h9 => absurd h9.1 (Nat.not_lt_zero _)) (fun k_2 ih t H locs ls c9 s9 hI => ?_) (((6 : Int32).toInt - (0 : Int32).toInt).toNat + 1) (63, 0, (F_X9_begin wd a1)) ⟨Nat.lt_succ_self _, (show 0 ≤ (0 : Int32).toInt from (by decide +kernel)), hP, hD, hS, (by exact hl), hM, rfl, rfl⟩
  obtain ⟨x10_2, x10_3, x10_h_wd⟩ := t
  obtain ⟨hk_2, hz_2, hP, hD, hS, hl, hM, hcs, hss⟩ := hI
  replace hcs := hcs.symm
  subst hcs
  replace hss := hss.symm
  subst hss
  have hP : va_P D vwCl [(h_wc, .inl (k_wc, 36, .inl wc)), (h_wd, .inl (k_wd, 6, .inl x10_h_wd)), (h_W, .inr (12, [.ref h_wc, .ref h_wd]))] H := hP
  have hD : va_D A [(h_wc, .inl (k_wc, 36, .inl wc)), (h_wd, .inl (k_wd, 6, .inl x10_h_wd)), (h_W, .inr (12, [.ref h_wc, .ref h_wd]))] := hD
  have hl : lv_has ls 6 [(3, .int x10_3), (2, .int x10_2), (0, .ref h_W), (1, .int a1)] := hl
  have hz_2 : 0 ≤ (x10_3 : Int32).toInt := hz_2
  have hk_2 : ((6 : Int32).toInt - (x10_3 : Int32).toInt).toNat < k_2 + 1 := hk_2
  have hM : F_X9_nearestFirst wc wd a1 = (K_X9_nearestFirst_10 ((if 6 ≤ x10_3 then (none, x10_2, x10_3, x10_h_wd) else (if (F_X9_nearestOf x10_h_wd x10_2) = (-1) then ((some x10_h_wd), x10_2, x10_3, x10_h_wd) else (K_X9_nearestFirst_42 x10_2 x10_3 x10_h_wd (L_X9_nearestFirst_10 wc k_2) (L_X9_nearestFirst_42 wc x10_2 x10_h_wd (((6 : Int32).toInt - (0 : Int32).toInt).toNat + 1) 0 x10_h_wd)))))) := hM
  have ih_2 := ih
  refine lv_iload_n hx hb dX9_nearestFirst_10 rfl (lv_at hl 0 rfl) ?_
  refine lv_bipush (v := 6) hx hb dX9_nearestFirst_11 (by decide) ?_
  refine lv_icmp_ge (tgt := 70) hx hb dX9_nearestFirst_13 (by decide) (fun c_3 => ?_) (fun c_3 => ?_)
  · rw [if_pos c_3] at hM
    have hM : F_X9_nearestFirst wc wd a1 = x10_h_wd := hM
    refine W.widen (k := 0) (n := 0) (Nat.le_of_ble_eq_true rfl) (Nat.le_of_ble_eq_true rfl) ?_
    exact W.vret hx hb hr (QG_.mk (fun _ => 0) (fun _ => 0) (fun _ => 0) [0, 1, 2] [0, 1] hP hD hK hS rfl trivial (by first | (rw [hM]; rfl) | rfl) (by decide) rfl) hS.2.2 dX9_nearestFirst_70
  · rw [if_neg c_3] at hM
    refine lv_aload_n hx hb dX9_nearestFirst_16 rfl (lv_at hl 2 rfl) ?_
    refine lv_iload_n hx hb dX9_nearestFirst_17 rfl (lv_at hl 1 rfl) ?_
    obtain ⟨y9, hy9⟩ : ∃ y9, (F_X9_nearestOf x10_h_wd x10_2) = y9 := ⟨_, rfl⟩
    have hcon := (c_X9_nearestOf l hl0 D ad H.size h_wd h_W k_wd (.ref h_wc) x10_h_wd x10_2)
    rw [hy9] at hcon
    refine kr_ (va_runV (As := [.int x10_2]) (rest := []) ⟨hx, hb, hml, hown, hts⟩ hcon (cwV 1 hts gX9_nearestFirst_X9_nearestOf rfl rfl rfl (by decide +kernel) ⟨Nat.le_of_ble_eq_true rfl, Nat.le_of_ble_eq_true rfl⟩) ⟨PR_.blind, va_recv hK hP (ci := 12) (q0 := 2) rfl rfl, PR_.pre hF hK (hP.sub [1, 2] rfl) hS hA [1] rfl⟩ rfl rfl hl.1 rfl (lv_room (Nat.le_of_ble_eq_true rfl)) dX9_nearestFirst_18 ⟨(Nat.le_of_ble_eq_true rfl), (Nat.le_of_ble_eq_true rfl)⟩) hP hS hA (fun H locs hP hS => ?_)
    subst hy9
    refine W.eq (g2 := F0 m 21 ls [.int (F_X9_nearestOf x10_h_wd x10_2)]) rfl ?_
    refine lv_istore (lv' := [(4, .int (F_X9_nearestOf x10_h_wd x10_2)), (3, .int x10_3), (2, .int x10_2), (0, .ref h_W), (1, .int a1)]) hx hb dX9_nearestFirst_21 hl (by decide) rfl (fun ls hl => ?_)
    refine lv_iload hx hb dX9_nearestFirst_23 (lv_at hl 0 rfl) ?_
    refine lv_iconst (v := (-1)) hx hb dX9_nearestFirst_25 (by decide) ?_
    refine lv_icmp_ne (tgt := 30) hx hb dX9_nearestFirst_26 (by decide) (fun c_5 => ?_) (fun c_5 => ?_)
    · rw [if_neg c_5] at hM
      refine lv_iload_n hx hb dX9_nearestFirst_30 rfl (lv_at hl 2 rfl) ?_
      refine lv_iconst (v := 1) hx hb dX9_nearestFirst_31 (by decide) ?_
      refine lv_iload hx hb dX9_nearestFirst_32 (lv_at hl 0 rfl) ?_
      refine lv_ishl hx hb dX9_nearestFirst_34 ?_
      refine lv_iconst (v := (-1)) hx hb dX9_nearestFirst_35 (by decide) ?_
      refine lv_ixor hx hb dX9_nearestFirst_36 ?_
      refine lv_iand hx hb dX9_nearestFirst_37 ?_
      refine lv_istore_n (lv' := [(2, .int (x10_2 &&& ((1 <<< ((F_X9_nearestOf x10_h_wd x10_2) &&& 31)) ^^^ (-1)))), (4, .int (F_X9_nearestOf x10_h_wd x10_2)), (3, .int x10_3), (0, .ref h_W), (1, .int a1)]) hx hb dX9_nearestFirst_38 rfl hl (by decide) rfl (fun ls hl => ?_)
      refine lv_iconst (v := 0) hx hb dX9_nearestFirst_39 (by decide) ?_
      refine lv_istore (lv' := [(5, .int 0), (2, .int (x10_2 &&& ((1 <<< ((F_X9_nearestOf x10_h_wd x10_2) &&& 31)) ^^^ (-1)))), (4, .int (F_X9_nearestOf x10_h_wd x10_2)), (3, .int x10_3), (0, .ref h_W), (1, .int a1)]) hx hb dX9_nearestFirst_40 hl (by decide) rfl (fun ls hl => ?_)
      refine lpW (τ := Int32 × (Nat → Int32)) (fun k t H locs ls c9 s9 => ((6 : Int32).toInt - (t.1 : Int32).toInt).toNat < k ∧ 0 ≤ (t.1 : Int32).toInt ∧ va_P D vwCl [(h_wc, .inl (k_wc, 36, .inl wc)), (h_wd, .inl (k_wd, 6, .inl t.2)), (h_W, .inr (12, [.ref h_wc, .ref h_wd]))] H ∧ va_D A [(h_wc, .inl (k_wc, 36, .inl wc)), (h_wd, .inl (k_wd, 6, .inl t.2)), (h_W, .inr (12, [.ref h_wc, .ref h_wd]))] ∧ va_S A s.heap H locs ∧ lv_has ls 6 [(5, .int t.1), (2, .int (x10_2 &&& ((1 <<< ((F_X9_nearestOf x10_h_wd x10_2) &&& 31)) ^^^ (-1)))), (4, .int (F_X9_nearestOf x10_h_wd x10_2)), (3, .int x10_3), (0, .ref h_W), (1, .int a1)] ∧ F_X9_nearestFirst wc wd a1 = (K_X9_nearestFirst_10 ((K_X9_nearestFirst_42 x10_2 x10_3 x10_h_wd (L_X9_nearestFirst_10 wc k_2) (L_X9_nearestFirst_42 wc x10_2 x10_h_wd k t.1 t.2)))) ∧ c9 = 0 ∧ s9 = 0) (fun t H locs ls c9 s9 h9 => absurd h9.1 (Nat.not_lt_zero _)) (fun k_6 ih t H locs ls c9 s9 hI => ?_) (((6 : Int32).toInt - (0 : Int32).toInt).toNat + 1) (0, x10_h_wd) ⟨Nat.lt_succ_self _, (show 0 ≤ (0 : Int32).toInt from (by decide +kernel)), hP, hD, hS, (by exact hl), hM, rfl, rfl⟩
      obtain ⟨x42_5, x42_h_wd⟩ := t
      obtain ⟨hk_6, hz_6, hP, hD, hS, hl, hM, hcs, hss⟩ := hI
      replace hcs := hcs.symm
      subst hcs
      replace hss := hss.symm
      subst hss
      have hP : va_P D vwCl [(h_wc, .inl (k_wc, 36, .inl wc)), (h_wd, .inl (k_wd, 6, .inl x42_h_wd)), (h_W, .inr (12, [.ref h_wc, .ref h_wd]))] H := hP
      have hD : va_D A [(h_wc, .inl (k_wc, 36, .inl wc)), (h_wd, .inl (k_wd, 6, .inl x42_h_wd)), (h_W, .inr (12, [.ref h_wc, .ref h_wd]))] := hD
      have hl : lv_has ls 6 [(5, .int x42_5), (2, .int (x10_2 &&& ((1 <<< ((F_X9_nearestOf x10_h_wd x10_2) &&& 31)) ^^^ (-1)))), (4, .int (F_X9_nearestOf x10_h_wd x10_2)), (3, .int x10_3), (0, .ref h_W), (1, .int a1)] := hl
      have hz_6 : 0 ≤ (x42_5 : Int32).toInt := hz_6
      have hk_6 : ((6 : Int32).toInt - (x42_5 : Int32).toInt).toNat < k_6 + 1 := hk_6
      have hM : F_X9_nearestFirst wc wd a1 = (K_X9_nearestFirst_10 ((K_X9_nearestFirst_42 x10_2 x10_3 x10_h_wd (L_X9_nearestFirst_10 wc k_2) ((if 6 ≤ x42_5 then (x42_5, x42_h_wd) else ((L_X9_nearestFirst_42 wc x10_2 x10_h_wd k_6) (x42_5 + 1) ((F_X9_shorten wc x42_h_wd (F_X9_nearestOf x10_h_wd x10_2) x42_5).2))))))) := hM
      have ih_6 := ih
      refine lv_iload hx hb dX9_nearestFirst_42 (lv_at hl 0 rfl) ?_
      refine lv_bipush (v := 6) hx hb dX9_nearestFirst_44 (by decide) ?_
      refine lv_icmp_ge (tgt := 64) hx hb dX9_nearestFirst_46 (by decide) (fun c_7 => ?_) (fun c_7 => ?_)
      · rw [if_pos c_7] at hM
        have hM : F_X9_nearestFirst wc wd a1 = (K_X9_nearestFirst_10 (((L_X9_nearestFirst_10 wc k_2) (x10_2 &&& ((1 <<< ((F_X9_nearestOf x10_h_wd x10_2) &&& 31)) ^^^ (-1))) (x10_3 + 1) x42_h_wd))) := hM
        refine lv_iinc (v := (x10_3 + 1)) (lv' := [(3, .int (x10_3 + 1)), (5, .int x42_5), (2, .int (x10_2 &&& ((1 <<< ((F_X9_nearestOf x10_h_wd x10_2) &&& 31)) ^^^ (-1)))), (4, .int (F_X9_nearestOf x10_h_wd x10_2)), (0, .ref h_W), (1, .int a1)]) hx hb dX9_nearestFirst_64 hl (k := 3) rfl rfl (by decide) rfl (fun ls hl => ?_)
        refine lv_goto (tgt := 10) hx hb dX9_nearestFirst_67 (by decide) ?_
        exact ih_2 ((x10_2 &&& ((1 <<< ((F_X9_nearestOf x10_h_wd x10_2) &&& 31)) ^^^ (-1))), (x10_3 + 1), x42_h_wd) _ _ _ _ _ ⟨lp_up hk_2 c_3, lp_up0 hz_2 c_3, hP, hD, hS, lv_sub hl [0, 2, 4, 5] rfl, hM, rfl, rfl⟩
      · rw [if_neg c_7] at hM
        refine lv_aload_n hx hb dX9_nearestFirst_49 rfl (lv_at hl 4 rfl) ?_
        refine lv_iload hx hb dX9_nearestFirst_50 (lv_at hl 2 rfl) ?_
        refine lv_iload hx hb dX9_nearestFirst_52 (lv_at hl 0 rfl) ?_
        obtain ⟨y9, hy9⟩ : ∃ y9, (F_X9_shorten wc x42_h_wd (F_X9_nearestOf x10_h_wd x10_2) x42_5) = y9 := ⟨_, rfl⟩
        have hcon := (c_X9_shorten l hl0 D ad H.size h_wc h_wd h_W k_wc k_wd wc x42_h_wd (F_X9_nearestOf x10_h_wd x10_2) x42_5 (by have y0 := f_nle c_3; have y1 := R_X9_nearestOf c_5; have y2 := f_nle c_7; have z0 := hz_2; have z1 := hz_6; have e_6 : (6 : Int32).toInt = 6 := (by decide +kernel); have b79 := Int32.toInt_lt (F_X9_nearestOf x10_h_wd x10_2); have d79 := Int32.le_toInt (F_X9_nearestOf x10_h_wd x10_2); omega) (by have y0 := f_nle c_3; have y1 := R_X9_nearestOf c_5; have y2 := f_nle c_7; have z0 := hz_2; have z1 := hz_6; have e_6 : (6 : Int32).toInt = 6 := (by decide +kernel); have b80 := Int32.toInt_lt (F_X9_nearestOf x10_h_wd x10_2); have d80 := Int32.le_toInt (F_X9_nearestOf x10_h_wd x10_2); omega) (by have y0 := f_nle c_3; have y1 := R_X9_nearestOf c_5; have y2 := f_nle c_7; have z0 := hz_2; have z1 := hz_6; have e_6 : (6 : Int32).toInt = 6 := (by decide +kernel); omega) (by have y0 := f_nle c_3; have y1 := R_X9_nearestOf c_5; have y2 := f_nle c_7; have z0 := hz_2; have z1 := hz_6; have e_6 : (6 : Int32).toInt = 6 := (by decide +kernel); omega))
        rw [hy9] at hcon
        refine kc_ (wc := [(h_wc, .inl (k_wc, 36, .inl wc)), (h_wd, .inl (k_wd, 6, .inl x42_h_wd)), (h_W, .inr (12, [.ref h_wc, .ref h_wd]))]) (wr := []) (va_runV (As := [.int (F_X9_nearestOf x10_h_wd x10_2), .int x42_5]) (rest := []) ⟨hx, hb, hml, hown, hts⟩ hcon (cwV 2 hts gX9_nearestFirst_X9_shorten rfl rfl rfl (by decide +kernel) ⟨Nat.le_of_ble_eq_true rfl, Nat.le_of_ble_eq_true rfl⟩) ⟨PC_.blind, va_recv hK hP (ci := 12) (q0 := 2) rfl rfl, PC_.pre hF hK hP hD hS hA [0, 1, 2] [0, 1] rfl (by decide) rfl⟩ rfl rfl hl.1 rfl (lv_room (Nat.le_of_ble_eq_true rfl)) dX9_nearestFirst_54 ⟨(Nat.le_of_ble_eq_true rfl), (Nat.le_of_ble_eq_true rfl)⟩) hK hP hD hS hA [0, 1, 2] [] [] rfl rfl (by decide) (by decide) rfl (fun qa_8 ka_8 ia H locs hpo hP hD hK hS => ?_)
        subst hy9
        have hP : va_P D vwCl [(h_wc, .inl (k_wc, 36, .inl wc)), (h_wd, .inl (k_wd, 6, .inl (F_X9_shorten wc x42_h_wd (F_X9_nearestOf x10_h_wd x10_2) x42_5).2)), (h_W, .inr (12, [.ref h_wc, .ref h_wd]))] H := hP
        have hD : va_D A [(h_wc, .inl (k_wc, 36, .inl wc)), (h_wd, .inl (k_wd, 6, .inl (F_X9_shorten wc x42_h_wd (F_X9_nearestOf x10_h_wd x10_2) x42_5).2)), (h_W, .inr (12, [.ref h_wc, .ref h_wd]))] := hD
        have hK : va_K D vwCl [(k_wc, .int), (k_wd, .int)] s := hK
        refine W.eq (g2 := F0 m 57 ls [.int (F_X9_shorten wc x42_h_wd (F_X9_nearestOf x10_h_wd x10_2) x42_5).1]) rfl ?_
        refine lv_pop hx hb dX9_nearestFirst_57 rfl ?_
        refine lv_iinc (v := (x42_5 + 1)) (lv' := [(5, .int (x42_5 + 1)), (2, .int (x10_2 &&& ((1 <<< ((F_X9_nearestOf x10_h_wd x10_2) &&& 31)) ^^^ (-1)))), (4, .int (F_X9_nearestOf x10_h_wd x10_2)), (3, .int x10_3), (0, .ref h_W), (1, .int a1)]) hx hb dX9_nearestFirst_58 hl (k := 0) rfl rfl (by decide) rfl (fun ls hl => ?_)
        refine lv_goto (tgt := 42) hx hb dX9_nearestFirst_61 (by decide) ?_
        exact ih_6 ((x42_5 + 1), ((F_X9_shorten wc x42_h_wd (F_X9_nearestOf x10_h_wd x10_2) x42_5).2)) _ _ _ _ _ ⟨lp_up hk_6 c_7, lp_up0 hz_6 c_7, hP, hD, hS, lv_sub hl [0, 1, 2, 3, 4, 5] rfl, hM, rfl, rfl⟩
    · rw [if_pos c_5] at hM
      have hM : F_X9_nearestFirst wc wd a1 = x10_h_wd := hM
      refine W.widen (k := 0) (n := 0) (Nat.le_of_ble_eq_true rfl) (Nat.le_of_ble_eq_true rfl) ?_
      exact W.vret hx hb hr (QG_.mk (fun _ => 0) (fun _ => 0) (fun _ => 0) [0, 1, 2] [0, 1] hP hD hK hS rfl trivial (by first | (rw [hM]; rfl) | rfl) (by decide) rfl) hS.2.2 dX9_nearestFirst_29
def B_X9_canalByCanal_34 (wc : Nat → Int32) (x24_4 : Int32) (rc_34 : Int32 → Int32 → (Nat → Int32) → (Int32 × Int32 × (Nat → Int32))) (x34_2 : Int32) (x34_5 : Int32) (x34_h_wd : Nat → Int32) : Int32 × Int32 × (Nat → Int32) := (if 6 ≤ x34_5 then (x34_2, x34_5, x34_h_wd) else (rc_34 (x34_2 ||| (F_X9_shorten wc x34_h_wd x24_4 x34_5).1) (x34_5 + 1) ((F_X9_shorten wc x34_h_wd x24_4 x34_5).2)))
def L_X9_canalByCanal_34 (wc : Nat → Int32) (x24_4 : Int32) : Nat → Int32 → Int32 → (Nat → Int32) → (Int32 × Int32 × (Nat → Int32))
  | 0 => fun x34_2 x34_5 x34_h_wd => (x34_2, x34_5, x34_h_wd)
  | k + 1 => B_X9_canalByCanal_34 wc x24_4 (L_X9_canalByCanal_34 wc x24_4 k)
def K_X9_canalByCanal_34 (x24_4 : Int32) (rc_24 : Int32 → Int32 → (Nat → Int32) → (Int32 × Int32 × (Nat → Int32))) : (Int32 × Int32 × (Nat → Int32)) → (Int32 × Int32 × (Nat → Int32))
  | (x34_2, x34_5, x34_h_wd) => (rc_24 x34_2 (x24_4 + 1) x34_h_wd)
def B_X9_canalByCanal_24 (wc : Nat → Int32) (rc_24 : Int32 → Int32 → (Nat → Int32) → (Int32 × Int32 × (Nat → Int32))) (x24_2 : Int32) (x24_4 : Int32) (x24_h_wd : Nat → Int32) : Int32 × Int32 × (Nat → Int32) := (if 6 ≤ x24_4 then (x24_2, x24_4, x24_h_wd) else (K_X9_canalByCanal_34 x24_4 rc_24 (L_X9_canalByCanal_34 wc x24_4 (((6 : Int32).toInt - (0 : Int32).toInt).toNat + 1) x24_2 0 x24_h_wd)))
def L_X9_canalByCanal_24 (wc : Nat → Int32) : Nat → Int32 → Int32 → (Nat → Int32) → (Int32 × Int32 × (Nat → Int32))
  | 0 => fun x24_2 x24_4 x24_h_wd => (x24_2, x24_4, x24_h_wd)
  | k + 1 => B_X9_canalByCanal_24 wc (L_X9_canalByCanal_24 wc k)
def K_X9_canalByCanal_24 (x9_3 : Int32) (rc_9 : Int32 → Int32 → (Nat → Int32) → (Int32 × Int32 × (Nat → Int32))) : (Int32 × Int32 × (Nat → Int32)) → (Int32 × Int32 × (Nat → Int32))
  | (x24_2, x24_4, x24_h_wd) => (rc_9 x24_2 (x9_3 + 1) x24_h_wd)
def B_X9_canalByCanal_9 (wc : Nat → Int32) (rc_9 : Int32 → Int32 → (Nat → Int32) → (Int32 × Int32 × (Nat → Int32))) (x9_2 : Int32) (x9_3 : Int32) (x9_h_wd : Nat → Int32) : Int32 × Int32 × (Nat → Int32) := (if 6 ≤ x9_3 then (x9_2, x9_3, x9_h_wd) else (if x9_2 = 0 then (x9_2, x9_3, x9_h_wd) else (K_X9_canalByCanal_24 x9_3 rc_9 (L_X9_canalByCanal_24 wc (((6 : Int32).toInt - (0 : Int32).toInt).toNat + 1) 0 0 x9_h_wd))))
def L_X9_canalByCanal_9 (wc : Nat → Int32) : Nat → Int32 → Int32 → (Nat → Int32) → (Int32 × Int32 × (Nat → Int32))
  | 0 => fun x9_2 x9_3 x9_h_wd => (x9_2, x9_3, x9_h_wd)
  | k + 1 => B_X9_canalByCanal_9 wc (L_X9_canalByCanal_9 wc k)
def K_X9_canalByCanal_9  : (Int32 × Int32 × (Nat → Int32)) → ((Nat → Int32))
  | (x9_2, x9_3, x9_h_wd) => x9_h_wd
def F_X9_canalByCanal (wc : Nat → Int32) (wd : Nat → Int32) (a1 : Int32) : (Nat → Int32) := (K_X9_canalByCanal_9 (L_X9_canalByCanal_9 wc (((6 : Int32).toInt - (0 : Int32).toInt).toNat + 1) 1 0 (F_X9_begin wd a1)))
set_option maxHeartbeats 4000000 in
set_option maxRecDepth 100000 in
theorem c_X9_canalByCanal (l : Launch) (hl0 : l.stackTraces = false) (D : va_G) (ad : Nat → Nat) (sz : Nat) (h_wc : Nat) (h_wd : Nat) (h_W : Nat) (k_wc : ClassId) (k_wd : ClassId) (wc : Nat → Int32) (wd : Nat → Int32) (a1 : Int32) : Met l yX9_canalByCanal wsX9_canalByCanal ({ frames := 2, cells := 0, slots := 0, locals := 48 }) (PC_ D ad [(h_wc, .inl (k_wc, 36, .inl wc)), (h_wd, .inl (k_wd, 6, .inl wd)), (h_W, .inr (12, [.ref h_wc, .ref h_wd]))] [(k_wc, .int), (k_wd, .int)] sz [.ref h_W, .int a1]) (QG_ D (fun q i => none) (fun q i => True) (fun q k i => [(h_wc, .inl (k_wc, 36, .inl wc)), (h_wd, .inl (k_wd, 6, .inl (F_X9_canalByCanal wc wd a1))), (h_W, .inr (12, [.ref h_wc, .ref h_wd]))]) (fun q k i => [(k_wc, .int), (k_wd, .int)]) (va_A [(h_wc, .inl (k_wc, 36, .inl wc)), (h_wd, .inl (k_wd, 6, .inl wd)), (h_W, .inr (12, [.ref h_wc, .ref h_wd]))] sz)) 0 0 (va_A [(h_wc, .inl (k_wc, 36, .inl wc)), (h_wd, .inl (k_wd, 6, .inl wd)), (h_W, .inr (12, [.ref h_wc, .ref h_wd]))] sz) := by
  refine Met.ofW (cc := cX9_canalByCanal) (maxL := 6) (ret := none) (by decide) rfl ?_
  intro p e s m args below meth c s₁ B hml hv
  obtain ⟨rfl, hsz, hP, hK, hD0, hF⟩ := hv
  have hx := B.exec
  have hb := B.bytes
  have hr := B.returns
  have hts := atoms_spec (ws := wsX9_canalByCanal) B.pre
  have hown : s.vm.findClass RX9 = some m.cls := findClass_of_methodNamed B.named
  have hlocks := B.notSynchronized
  subst hsz
  have hD := hD0.self (sz := s.heap.size)
  generalize hAe : va_A [(h_wc, .inl (k_wc, 36, .inl wc)), (h_wd, .inl (k_wd, 6, .inl wd)), (h_W, .inr (12, [.ref h_wc, .ref h_wd]))] s.heap.size = A at hD hF ⊢
  have hA : ∀ q : Nat, s.heap.size ≤ q → A q := fun q h => by rw [← hAe]; exact Or.inr h
  obtain ⟨H, hHe⟩ : ∃ H : Heap, H = s.heap := ⟨_, rfl⟩
  have hS : va_S A s.heap H [] := by rw [hHe]; exact va_S.rf
  have hP : va_P D vwCl [(h_wc, .inl (k_wc, 36, .inl wc)), (h_wd, .inl (k_wd, 6, .inl wd)), (h_W, .inr (12, [.ref h_wc, .ref h_wd]))] H := by rw [hHe]; exact hP
  rw [← hHe]
  have hl := lv_entry [.ref h_W, .int a1] (n := 6) (Nat.le_of_ble_eq_true rfl)
  rw [lg_entry_eq]
  generalize (lg_sl [.ref h_W, .int a1] ++ List.replicate (6 - (lg_sl [.ref h_W, .int a1]).length) Slot.unset).toArray = ls at hl ⊢
  have hl : lv_has ls 6 [(0, .ref h_W), (1, .int a1)] := hl
  have hM : F_X9_canalByCanal wc wd a1 = (K_X9_canalByCanal_9 (L_X9_canalByCanal_9 wc (((6 : Int32).toInt - (0 : Int32).toInt).toNat + 1) 1 0 (F_X9_begin wd a1))) := rfl
  refine lv_aload_n hx hb dX9_canalByCanal_0 rfl (lv_at hl 0 rfl) ?_
  refine lv_iload_n hx hb dX9_canalByCanal_1 rfl (lv_at hl 1 rfl) ?_
  obtain ⟨y9, hy9⟩ : ∃ y9, (F_X9_begin wd a1) = y9 := ⟨_, rfl⟩
  have hcon := (c_X9_begin l hl0 D ad H.size h_wd h_W k_wd (.ref h_wc) wd a1)
  rw [hy9] at hcon
  refine kc_ (wc := [(h_wd, .inl (k_wd, 6, .inl wd)), (h_W, .inr (12, [.ref h_wc, .ref h_wd]))]) (wr := [(h_wc, .inl (k_wc, 36, .inl wc))]) (va_runV (As := [.int a1]) (rest := []) ⟨hx, hb, hml, hown, hts⟩ hcon (cwV 1 hts gX9_canalByCanal_X9_begin rfl rfl rfl (by decide +kernel) ⟨Nat.le_of_ble_eq_true rfl, Nat.le_of_ble_eq_true rfl⟩) ⟨PC_.blind, va_recv hK hP (ci := 12) (q0 := 2) rfl rfl, PC_.pre hF hK hP hD hS hA [1, 2] [1] rfl (by decide) rfl⟩ rfl rfl hl.1 rfl (lv_room (Nat.le_of_ble_eq_true rfl)) dX9_canalByCanal_2 ⟨(Nat.le_of_ble_eq_true rfl), (Nat.le_of_ble_eq_true rfl)⟩) hK hP hD hS hA [1, 2] [0] [0] rfl rfl (by decide) (by decide) rfl (fun qa_1 ka_1 ia H locs hpo hP hD hK hS => ?_)
  subst hy9
  have hP : va_P D vwCl [(h_wc, .inl (k_wc, 36, .inl wc)), (h_wd, .inl (k_wd, 6, .inl (F_X9_begin wd a1))), (h_W, .inr (12, [.ref h_wc, .ref h_wd]))] H := hP
  have hD : va_D A [(h_wc, .inl (k_wc, 36, .inl wc)), (h_wd, .inl (k_wd, 6, .inl (F_X9_begin wd a1))), (h_W, .inr (12, [.ref h_wc, .ref h_wd]))] := hD
  have hK : va_K D vwCl [(k_wc, .int), (k_wd, .int)] s := hK
  refine W.eq (g2 := F0 m 5 ls []) rfl ?_
  refine lv_iconst (v := 1) hx hb dX9_canalByCanal_5 (by decide) ?_
  refine lv_istore_n (lv' := [(2, .int 1), (0, .ref h_W), (1, .int a1)]) hx hb dX9_canalByCanal_6 rfl hl (by decide) rfl (fun ls hl => ?_)
  refine lv_iconst (v := 0) hx hb dX9_canalByCanal_7 (by decide) ?_
  refine lv_istore_n (lv' := [(3, .int 0), (2, .int 1), (0, .ref h_W), (1, .int a1)]) hx hb dX9_canalByCanal_8 rfl hl (by decide) rfl (fun ls hl => ?_)
  refine lpW (τ := Int32 × Int32 × (Nat → Int32)) (fun k t H locs ls c9 s9 => ((6 : Int32).toInt - (t.2.1 : Int32).toInt).toNat < k ∧ 0 ≤ (t.2.1 : Int32).toInt ∧ va_P D vwCl [(h_wc, .inl (k_wc, 36, .inl wc)), (h_wd, .inl (k_wd, 6, .inl t.2.2)), (h_W, .inr (12, [.ref h_wc, .ref h_wd]))] H ∧ va_D A [(h_wc, .inl (k_wc, 36, .inl wc)), (h_wd, .inl (k_wd, 6, .inl t.2.2)), (h_W, .inr (12, [.ref h_wc, .ref h_wd]))] ∧ va_S A s.heap H locs ∧ lv_has ls 6 [(3, .int t.2.1), (2, .int t.1), (0, .ref h_W), (1, .int a1)] ∧ F_X9_canalByCanal wc wd a1 = (K_X9_canalByCanal_9 (L_X9_canalByCanal_9 wc k t.1 t.2.1 t.2.2)) ∧ c9 = 0 ∧ s9 = 0) (fun t H locs ls c9 s9 h9 => absurd h9.1 (Nat.not_lt_zero _)) (fun k_2 ih t H locs ls c9 s9 hI => ?_) (((6 : Int32).toInt - (0 : Int32).toInt).toNat + 1) (1, 0, (F_X9_begin wd a1)) ⟨Nat.lt_succ_self _, (show 0 ≤ (0 : Int32).toInt from (by decide +kernel)), hP, hD, hS, (by exact hl), hM, rfl, rfl⟩
  obtain ⟨x9_2, x9_3, x9_h_wd⟩ := t
  obtain ⟨hk_2, hz_2, hP, hD, hS, hl, hM, hcs, hss⟩ := hI
  replace hcs := hcs.symm
  subst hcs
  replace hss := hss.symm
  subst hss
  have hP : va_P D vwCl [(h_wc, .inl (k_wc, 36, .inl wc)), (h_wd, .inl (k_wd, 6, .inl x9_h_wd)), (h_W, .inr (12, [.ref h_wc, .ref h_wd]))] H := hP
  have hD : va_D A [(h_wc, .inl (k_wc, 36, .inl wc)), (h_wd, .inl (k_wd, 6, .inl x9_h_wd)), (h_W, .inr (12, [.ref h_wc, .ref h_wd]))] := hD
  have hl : lv_has ls 6 [(3, .int x9_3), (2, .int x9_2), (0, .ref h_W), (1, .int a1)] := hl
  have hz_2 : 0 ≤ (x9_3 : Int32).toInt := hz_2
  have hk_2 : ((6 : Int32).toInt - (x9_3 : Int32).toInt).toNat < k_2 + 1 := hk_2
  have hM : F_X9_canalByCanal wc wd a1 = (K_X9_canalByCanal_9 ((if 6 ≤ x9_3 then (x9_2, x9_3, x9_h_wd) else (if x9_2 = 0 then (x9_2, x9_3, x9_h_wd) else (K_X9_canalByCanal_24 x9_3 (L_X9_canalByCanal_9 wc k_2) (L_X9_canalByCanal_24 wc (((6 : Int32).toInt - (0 : Int32).toInt).toNat + 1) 0 0 x9_h_wd)))))) := hM
  have ih_2 := ih
  refine lv_iload_n hx hb dX9_canalByCanal_9 rfl (lv_at hl 0 rfl) ?_
  refine lv_bipush (v := 6) hx hb dX9_canalByCanal_10 (by decide) ?_
  refine lv_icmp_ge (tgt := 70) hx hb dX9_canalByCanal_12 (by decide) (fun c_3 => ?_) (fun c_3 => ?_)
  · rw [if_pos c_3] at hM
    have hM : F_X9_canalByCanal wc wd a1 = x9_h_wd := hM
    refine W.widen (k := 0) (n := 0) (Nat.le_of_ble_eq_true rfl) (Nat.le_of_ble_eq_true rfl) ?_
    exact W.vret hx hb hr (QG_.mk (fun _ => 0) (fun _ => 0) (fun _ => 0) [0, 1, 2] [0, 1] hP hD hK hS rfl trivial (by first | (rw [hM]; rfl) | rfl) (by decide) rfl) hS.2.2 dX9_canalByCanal_70
  · rw [if_neg c_3] at hM
    refine lv_iload_n hx hb dX9_canalByCanal_15 rfl (lv_at hl 1 rfl) ?_
    refine lv_if_eq (tgt := 70) hx hb dX9_canalByCanal_16 (by decide) (fun c_4 => ?_) (fun c_4 => ?_)
    · rw [if_pos c_4] at hM
      have hM : F_X9_canalByCanal wc wd a1 = x9_h_wd := hM
      refine W.widen (k := 0) (n := 0) (Nat.le_of_ble_eq_true rfl) (Nat.le_of_ble_eq_true rfl) ?_
      exact W.vret hx hb hr (QG_.mk (fun _ => 0) (fun _ => 0) (fun _ => 0) [0, 1, 2] [0, 1] hP hD hK hS rfl trivial (by first | (rw [hM]; rfl) | rfl) (by decide) rfl) hS.2.2 dX9_canalByCanal_70
    · rw [if_neg c_4] at hM
      refine lv_iconst (v := 0) hx hb dX9_canalByCanal_19 (by decide) ?_
      refine lv_istore_n (lv' := [(2, .int 0), (3, .int x9_3), (0, .ref h_W), (1, .int a1)]) hx hb dX9_canalByCanal_20 rfl hl (by decide) rfl (fun ls hl => ?_)
      refine lv_iconst (v := 0) hx hb dX9_canalByCanal_21 (by decide) ?_
      refine lv_istore (lv' := [(4, .int 0), (2, .int 0), (3, .int x9_3), (0, .ref h_W), (1, .int a1)]) hx hb dX9_canalByCanal_22 hl (by decide) rfl (fun ls hl => ?_)
      refine lpW (τ := Int32 × Int32 × (Nat → Int32)) (fun k t H locs ls c9 s9 => ((6 : Int32).toInt - (t.2.1 : Int32).toInt).toNat < k ∧ 0 ≤ (t.2.1 : Int32).toInt ∧ va_P D vwCl [(h_wc, .inl (k_wc, 36, .inl wc)), (h_wd, .inl (k_wd, 6, .inl t.2.2)), (h_W, .inr (12, [.ref h_wc, .ref h_wd]))] H ∧ va_D A [(h_wc, .inl (k_wc, 36, .inl wc)), (h_wd, .inl (k_wd, 6, .inl t.2.2)), (h_W, .inr (12, [.ref h_wc, .ref h_wd]))] ∧ va_S A s.heap H locs ∧ lv_has ls 6 [(4, .int t.2.1), (2, .int t.1), (3, .int x9_3), (0, .ref h_W), (1, .int a1)] ∧ F_X9_canalByCanal wc wd a1 = (K_X9_canalByCanal_9 ((K_X9_canalByCanal_24 x9_3 (L_X9_canalByCanal_9 wc k_2) (L_X9_canalByCanal_24 wc k t.1 t.2.1 t.2.2)))) ∧ c9 = 0 ∧ s9 = 0) (fun t H locs ls c9 s9 h9 => absurd h9.1 (Nat.not_lt_zero _)) (fun k_5 ih t H locs ls c9 s9 hI => ?_) (((6 : Int32).toInt - (0 : Int32).toInt).toNat + 1) (0, 0, x9_h_wd) ⟨Nat.lt_succ_self _, (show 0 ≤ (0 : Int32).toInt from (by decide +kernel)), hP, hD, hS, (by exact hl), hM, rfl, rfl⟩
      obtain ⟨x24_2, x24_4, x24_h_wd⟩ := t
      obtain ⟨hk_5, hz_5, hP, hD, hS, hl, hM, hcs, hss⟩ := hI
      replace hcs := hcs.symm
      subst hcs
      replace hss := hss.symm
      subst hss
      have hP : va_P D vwCl [(h_wc, .inl (k_wc, 36, .inl wc)), (h_wd, .inl (k_wd, 6, .inl x24_h_wd)), (h_W, .inr (12, [.ref h_wc, .ref h_wd]))] H := hP
      have hD : va_D A [(h_wc, .inl (k_wc, 36, .inl wc)), (h_wd, .inl (k_wd, 6, .inl x24_h_wd)), (h_W, .inr (12, [.ref h_wc, .ref h_wd]))] := hD
      have hl : lv_has ls 6 [(4, .int x24_4), (2, .int x24_2), (3, .int x9_3), (0, .ref h_W), (1, .int a1)] := hl
      have hz_5 : 0 ≤ (x24_4 : Int32).toInt := hz_5
      have hk_5 : ((6 : Int32).toInt - (x24_4 : Int32).toInt).toNat < k_5 + 1 := hk_5
      have hM : F_X9_canalByCanal wc wd a1 = (K_X9_canalByCanal_9 ((K_X9_canalByCanal_24 x9_3 (L_X9_canalByCanal_9 wc k_2) ((if 6 ≤ x24_4 then (x24_2, x24_4, x24_h_wd) else (K_X9_canalByCanal_34 x24_4 (L_X9_canalByCanal_24 wc k_5) (L_X9_canalByCanal_34 wc x24_4 (((6 : Int32).toInt - (0 : Int32).toInt).toNat + 1) x24_2 0 x24_h_wd))))))) := hM
      have ih_5 := ih
      refine lv_iload hx hb dX9_canalByCanal_24 (lv_at hl 0 rfl) ?_
      refine lv_bipush (v := 6) hx hb dX9_canalByCanal_26 (by decide) ?_
      refine lv_icmp_ge (tgt := 64) hx hb dX9_canalByCanal_28 (by decide) (fun c_6 => ?_) (fun c_6 => ?_)
      · rw [if_pos c_6] at hM
        have hM : F_X9_canalByCanal wc wd a1 = (K_X9_canalByCanal_9 (((L_X9_canalByCanal_9 wc k_2) x24_2 (x9_3 + 1) x24_h_wd))) := hM
        refine lv_iinc (v := (x9_3 + 1)) (lv' := [(3, .int (x9_3 + 1)), (4, .int x24_4), (2, .int x24_2), (0, .ref h_W), (1, .int a1)]) hx hb dX9_canalByCanal_64 hl (k := 2) rfl rfl (by decide) rfl (fun ls hl => ?_)
        refine lv_goto (tgt := 9) hx hb dX9_canalByCanal_67 (by decide) ?_
        exact ih_2 (x24_2, (x9_3 + 1), x24_h_wd) _ _ _ _ _ ⟨lp_up hk_2 c_3, lp_up0 hz_2 c_3, hP, hD, hS, lv_sub hl [0, 2, 3, 4] rfl, hM, rfl, rfl⟩
      · rw [if_neg c_6] at hM
        refine lv_iconst (v := 0) hx hb dX9_canalByCanal_31 (by decide) ?_
        refine lv_istore (lv' := [(5, .int 0), (4, .int x24_4), (2, .int x24_2), (3, .int x9_3), (0, .ref h_W), (1, .int a1)]) hx hb dX9_canalByCanal_32 hl (by decide) rfl (fun ls hl => ?_)
        refine lpW (τ := Int32 × Int32 × (Nat → Int32)) (fun k t H locs ls c9 s9 => ((6 : Int32).toInt - (t.2.1 : Int32).toInt).toNat < k ∧ 0 ≤ (t.2.1 : Int32).toInt ∧ va_P D vwCl [(h_wc, .inl (k_wc, 36, .inl wc)), (h_wd, .inl (k_wd, 6, .inl t.2.2)), (h_W, .inr (12, [.ref h_wc, .ref h_wd]))] H ∧ va_D A [(h_wc, .inl (k_wc, 36, .inl wc)), (h_wd, .inl (k_wd, 6, .inl t.2.2)), (h_W, .inr (12, [.ref h_wc, .ref h_wd]))] ∧ va_S A s.heap H locs ∧ lv_has ls 6 [(5, .int t.2.1), (4, .int x24_4), (2, .int t.1), (3, .int x9_3), (0, .ref h_W), (1, .int a1)] ∧ F_X9_canalByCanal wc wd a1 = (K_X9_canalByCanal_9 ((K_X9_canalByCanal_24 x9_3 (L_X9_canalByCanal_9 wc k_2) ((K_X9_canalByCanal_34 x24_4 (L_X9_canalByCanal_24 wc k_5) (L_X9_canalByCanal_34 wc x24_4 k t.1 t.2.1 t.2.2)))))) ∧ c9 = 0 ∧ s9 = 0) (fun t H locs ls c9 s9 h9 => absurd h9.1 (Nat.not_lt_zero _)) (fun k_7 ih t H locs ls c9 s9 hI => ?_) (((6 : Int32).toInt - (0 : Int32).toInt).toNat + 1) (x24_2, 0, x24_h_wd) ⟨Nat.lt_succ_self _, (show 0 ≤ (0 : Int32).toInt from (by decide +kernel)), hP, hD, hS, (by exact hl), hM, rfl, rfl⟩
        obtain ⟨x34_2, x34_5, x34_h_wd⟩ := t
        obtain ⟨hk_7, hz_7, hP, hD, hS, hl, hM, hcs, hss⟩ := hI
        replace hcs := hcs.symm
        subst hcs
        replace hss := hss.symm
        subst hss
        have hP : va_P D vwCl [(h_wc, .inl (k_wc, 36, .inl wc)), (h_wd, .inl (k_wd, 6, .inl x34_h_wd)), (h_W, .inr (12, [.ref h_wc, .ref h_wd]))] H := hP
        have hD : va_D A [(h_wc, .inl (k_wc, 36, .inl wc)), (h_wd, .inl (k_wd, 6, .inl x34_h_wd)), (h_W, .inr (12, [.ref h_wc, .ref h_wd]))] := hD
        have hl : lv_has ls 6 [(5, .int x34_5), (4, .int x24_4), (2, .int x34_2), (3, .int x9_3), (0, .ref h_W), (1, .int a1)] := hl
        have hz_7 : 0 ≤ (x34_5 : Int32).toInt := hz_7
        have hk_7 : ((6 : Int32).toInt - (x34_5 : Int32).toInt).toNat < k_7 + 1 := hk_7
        have hM : F_X9_canalByCanal wc wd a1 = (K_X9_canalByCanal_9 ((K_X9_canalByCanal_24 x9_3 (L_X9_canalByCanal_9 wc k_2) ((K_X9_canalByCanal_34 x24_4 (L_X9_canalByCanal_24 wc k_5) ((if 6 ≤ x34_5 then (x34_2, x34_5, x34_h_wd) else ((L_X9_canalByCanal_34 wc x24_4 k_7) (x34_2 ||| (F_X9_shorten wc x34_h_wd x24_4 x34_5).1) (x34_5 + 1) ((F_X9_shorten wc x34_h_wd x24_4 x34_5).2))))))))) := hM
        have ih_7 := ih
        refine lv_iload hx hb dX9_canalByCanal_34 (lv_at hl 0 rfl) ?_
        refine lv_bipush (v := 6) hx hb dX9_canalByCanal_36 (by decide) ?_
        refine lv_icmp_ge (tgt := 58) hx hb dX9_canalByCanal_38 (by decide) (fun c_8 => ?_) (fun c_8 => ?_)
        · rw [if_pos c_8] at hM
          have hM : F_X9_canalByCanal wc wd a1 = (K_X9_canalByCanal_9 ((K_X9_canalByCanal_24 x9_3 (L_X9_canalByCanal_9 wc k_2) (((L_X9_canalByCanal_24 wc k_5) x34_2 (x24_4 + 1) x34_h_wd))))) := hM
          refine lv_iinc (v := (x24_4 + 1)) (lv' := [(4, .int (x24_4 + 1)), (5, .int x34_5), (2, .int x34_2), (3, .int x9_3), (0, .ref h_W), (1, .int a1)]) hx hb dX9_canalByCanal_58 hl (k := 1) rfl rfl (by decide) rfl (fun ls hl => ?_)
          refine lv_goto (tgt := 24) hx hb dX9_canalByCanal_61 (by decide) ?_
          exact ih_5 (x34_2, (x24_4 + 1), x34_h_wd) _ _ _ _ _ ⟨lp_up hk_5 c_6, lp_up0 hz_5 c_6, hP, hD, hS, lv_sub hl [0, 2, 3, 4, 5] rfl, hM, rfl, rfl⟩
        · rw [if_neg c_8] at hM
          refine lv_iload_n hx hb dX9_canalByCanal_41 rfl (lv_at hl 2 rfl) ?_
          refine lv_aload_n hx hb dX9_canalByCanal_42 rfl (lv_at hl 4 rfl) ?_
          refine lv_iload hx hb dX9_canalByCanal_43 (lv_at hl 1 rfl) ?_
          refine lv_iload hx hb dX9_canalByCanal_45 (lv_at hl 0 rfl) ?_
          obtain ⟨y9, hy9⟩ : ∃ y9, (F_X9_shorten wc x34_h_wd x24_4 x34_5) = y9 := ⟨_, rfl⟩
          have hcon := (c_X9_shorten l hl0 D ad H.size h_wc h_wd h_W k_wc k_wd wc x34_h_wd x24_4 x34_5 (by have y0 := f_nle c_3; have y1 := f_neq c_4; have y2 := f_nle c_6; have y3 := f_nle c_8; have z0 := hz_2; have z1 := hz_5; have z2 := hz_7; have e_0 : (0 : Int32).toInt = 0 := (by decide +kernel); have e_6 : (6 : Int32).toInt = 6 := (by decide +kernel); omega) (by have y0 := f_nle c_3; have y1 := f_neq c_4; have y2 := f_nle c_6; have y3 := f_nle c_8; have z0 := hz_2; have z1 := hz_5; have z2 := hz_7; have e_0 : (0 : Int32).toInt = 0 := (by decide +kernel); have e_6 : (6 : Int32).toInt = 6 := (by decide +kernel); omega) (by have y0 := f_nle c_3; have y1 := f_neq c_4; have y2 := f_nle c_6; have y3 := f_nle c_8; have z0 := hz_2; have z1 := hz_5; have z2 := hz_7; have e_0 : (0 : Int32).toInt = 0 := (by decide +kernel); have e_6 : (6 : Int32).toInt = 6 := (by decide +kernel); omega) (by have y0 := f_nle c_3; have y1 := f_neq c_4; have y2 := f_nle c_6; have y3 := f_nle c_8; have z0 := hz_2; have z1 := hz_5; have z2 := hz_7; have e_0 : (0 : Int32).toInt = 0 := (by decide +kernel); have e_6 : (6 : Int32).toInt = 6 := (by decide +kernel); omega))
          rw [hy9] at hcon
          refine kc_ (wc := [(h_wc, .inl (k_wc, 36, .inl wc)), (h_wd, .inl (k_wd, 6, .inl x34_h_wd)), (h_W, .inr (12, [.ref h_wc, .ref h_wd]))]) (wr := []) (va_runV (As := [.int x24_4, .int x34_5]) (rest := [.int x34_2]) ⟨hx, hb, hml, hown, hts⟩ hcon (cwV 2 hts gX9_canalByCanal_X9_shorten rfl rfl rfl (by decide +kernel) ⟨Nat.le_of_ble_eq_true rfl, Nat.le_of_ble_eq_true rfl⟩) ⟨PC_.blind, va_recv hK hP (ci := 12) (q0 := 2) rfl rfl, PC_.pre hF hK hP hD hS hA [0, 1, 2] [0, 1] rfl (by decide) rfl⟩ rfl rfl hl.1 rfl (lv_room (Nat.le_of_ble_eq_true rfl)) dX9_canalByCanal_47 ⟨(Nat.le_of_ble_eq_true rfl), (Nat.le_of_ble_eq_true rfl)⟩) hK hP hD hS hA [0, 1, 2] [] [] rfl rfl (by decide) (by decide) rfl (fun qa_9 ka_9 ia H locs hpo hP hD hK hS => ?_)
          subst hy9
          have hP : va_P D vwCl [(h_wc, .inl (k_wc, 36, .inl wc)), (h_wd, .inl (k_wd, 6, .inl (F_X9_shorten wc x34_h_wd x24_4 x34_5).2)), (h_W, .inr (12, [.ref h_wc, .ref h_wd]))] H := hP
          have hD : va_D A [(h_wc, .inl (k_wc, 36, .inl wc)), (h_wd, .inl (k_wd, 6, .inl (F_X9_shorten wc x34_h_wd x24_4 x34_5).2)), (h_W, .inr (12, [.ref h_wc, .ref h_wd]))] := hD
          have hK : va_K D vwCl [(k_wc, .int), (k_wd, .int)] s := hK
          refine W.eq (g2 := F0 m 50 ls [.int (F_X9_shorten wc x34_h_wd x24_4 x34_5).1, .int x34_2]) rfl ?_
          refine lv_ior hx hb dX9_canalByCanal_50 ?_
          refine lv_istore_n (lv' := [(2, .int (x34_2 ||| (F_X9_shorten wc x34_h_wd x24_4 x34_5).1)), (5, .int x34_5), (4, .int x24_4), (3, .int x9_3), (0, .ref h_W), (1, .int a1)]) hx hb dX9_canalByCanal_51 rfl hl (by decide) rfl (fun ls hl => ?_)
          refine lv_iinc (v := (x34_5 + 1)) (lv' := [(5, .int (x34_5 + 1)), (2, .int (x34_2 ||| (F_X9_shorten wc x34_h_wd x24_4 x34_5).1)), (4, .int x24_4), (3, .int x9_3), (0, .ref h_W), (1, .int a1)]) hx hb dX9_canalByCanal_52 hl (k := 1) rfl rfl (by decide) rfl (fun ls hl => ?_)
          refine lv_goto (tgt := 34) hx hb dX9_canalByCanal_55 (by decide) ?_
          exact ih_7 ((x34_2 ||| (F_X9_shorten wc x34_h_wd x24_4 x34_5).1), (x34_5 + 1), ((F_X9_shorten wc x34_h_wd x24_4 x34_5).2)) _ _ _ _ _ ⟨lp_up hk_7 c_8, lp_up0 hz_7 c_8, hP, hD, hS, lv_sub hl [0, 2, 1, 3, 4, 5] rfl, hM, rfl, rfl⟩
def B_X9_firstStep_27 (wc : Nat → Int32) (wd : Nat → Int32) (a1 : Int32) (a2 : Int32) (rc_27 : Int32 → (Nat → Int32) → (Option (Int32 × (Nat → Int32)) × Int32 × (Nat → Int32))) (x27_4 : Int32) (x27_h_wd : Nat → Int32) : Option (Int32 × (Nat → Int32)) × Int32 × (Nat → Int32) := (if 6 ≤ x27_4 then (none, x27_4, x27_h_wd) else (if (wc (ix ((a1 * 6) + x27_4))) ≤ 0 then (rc_27 (x27_4 + 1) (F_X9_nearestFirst wc x27_h_wd x27_4)) else (if ((wc (ix ((a1 * 6) + x27_4))) + (F_X9_distanceTo (F_X9_nearestFirst wc x27_h_wd x27_4) a2)) = (F_X9_distanceTo (F_X9_nearestFirst wc wd a1) a2) then ((some (x27_4, (F_X9_nearestFirst wc x27_h_wd x27_4))), x27_4, x27_h_wd) else (rc_27 (x27_4 + 1) (F_X9_nearestFirst wc x27_h_wd x27_4)))))
def L_X9_firstStep_27 (wc : Nat → Int32) (wd : Nat → Int32) (a1 : Int32) (a2 : Int32) : Nat → Int32 → (Nat → Int32) → (Option (Int32 × (Nat → Int32)) × Int32 × (Nat → Int32))
  | 0 => fun x27_4 x27_h_wd => (none, x27_4, x27_h_wd)
  | k + 1 => B_X9_firstStep_27 wc wd a1 a2 (L_X9_firstStep_27 wc wd a1 a2 k)
def K_X9_firstStep_27  : (Option (Int32 × (Nat → Int32)) × Int32 × (Nat → Int32)) → (Int32 × (Nat → Int32))
  | (some r9, _, _) => r9
  | (none, x27_4, x27_h_wd) => ((-1), x27_h_wd)
def F_X9_firstStep (wc : Nat → Int32) (wd : Nat → Int32) (a1 : Int32) (a2 : Int32) : Int32 × (Nat → Int32) := (if a1 = a2 then ((-1), (F_X9_nearestFirst wc wd a1)) else (if (F_X9_distanceTo (F_X9_nearestFirst wc wd a1) a2) < 1000000 then (K_X9_firstStep_27 (L_X9_firstStep_27 wc wd a1 a2 (((6 : Int32).toInt - (0 : Int32).toInt).toNat + 1) 0 (F_X9_nearestFirst wc wd a1))) else ((-1), (F_X9_nearestFirst wc wd a1))))
theorem R_X9_firstStep {wc wd : Nat → Int32} {a b : Int32} (h : ¬ (F_X9_firstStep wc wd a b).1 = -1) : 0 ≤ (F_X9_firstStep wc wd a b).1.toInt ∧ (F_X9_firstStep wc wd a b).1.toInt < 6 := by
  have key : ∀ (k : Nat) (x : Int32) (w : Nat → Int32), 0 ≤ x.toInt → ((K_X9_firstStep_27 (L_X9_firstStep_27 wc wd a b k x w)).1 = -1 ∨ (0 ≤ (K_X9_firstStep_27 (L_X9_firstStep_27 wc wd a b k x w)).1.toInt ∧ (K_X9_firstStep_27 (L_X9_firstStep_27 wc wd a b k x w)).1.toInt < 6)) := by
    have e6 : (6 : Int32).toInt = 6 := by decide +kernel
    intro k
    induction k with
    | zero => intro x w _; exact Or.inl rfl
    | succ k ih =>
      intro x w hz
      show ((K_X9_firstStep_27 (B_X9_firstStep_27 wc wd a b (L_X9_firstStep_27 wc wd a b k) x w)).1 = -1 ∨ (0 ≤ (K_X9_firstStep_27 (B_X9_firstStep_27 wc wd a b (L_X9_firstStep_27 wc wd a b k) x w)).1.toInt ∧ (K_X9_firstStep_27 (B_X9_firstStep_27 wc wd a b (L_X9_firstStep_27 wc wd a b k) x w)).1.toInt < 6))
      unfold B_X9_firstStep_27
      by_cases c1 : 6 ≤ x
      · rw [if_pos c1]; exact Or.inl rfl
      have y1 := f_nle c1
      have y2 := incI (x := x) (n := 6) y1
      rw [if_neg c1]
      by_cases c2 : wc (ix (a * 6 + x)) ≤ 0
      · rw [if_pos c2]; exact ih _ _ (by omega)
      rw [if_neg c2]
      by_cases c3 : wc (ix (a * 6 + x)) + F_X9_distanceTo (F_X9_nearestFirst wc w x) b = F_X9_distanceTo (F_X9_nearestFirst wc wd a) b
      · rw [if_pos c3]; exact Or.inr ⟨hz, by show x.toInt < 6; omega⟩
      rw [if_neg c3]
      exact ih _ _ (by omega)
  unfold F_X9_firstStep at h ⊢
  by_cases c1 : a = b
  · rw [if_pos c1] at h; exact absurd rfl h
  rw [if_neg c1] at h ⊢
  by_cases c2 : F_X9_distanceTo (F_X9_nearestFirst wc wd a) b < 1000000
  · rw [if_pos c2] at h ⊢
    exact (key _ 0 _ (by decide +kernel)).resolve_left h
  · rw [if_neg c2] at h; exact absurd rfl h
set_option maxHeartbeats 4000000 in
set_option maxRecDepth 100000 in
theorem c_X9_firstStep (l : Launch) (hl0 : l.stackTraces = false) (D : va_G) (ad : Nat → Nat) (sz : Nat) (h_wc : Nat) (h_wd : Nat) (h_W : Nat) (k_wc : ClassId) (k_wd : ClassId) (wc : Nat → Int32) (wd : Nat → Int32) (a1 : Int32) (a2 : Int32) (hy0 : 0 ≤ a1.toInt) (hy1 : a1.toInt < 6) (hy2 : 0 ≤ a2.toInt) (hy3 : a2.toInt < 6) : Met l yX9_firstStep wsX9_firstStep ({ frames := 3, cells := 0, slots := 0, locals := 75 }) (PC_ D ad [(h_wc, .inl (k_wc, 36, .inl wc)), (h_wd, .inl (k_wd, 6, .inl wd)), (h_W, .inr (12, [.ref h_wc, .ref h_wd]))] [(k_wc, .int), (k_wd, .int)] sz [.ref h_W, .int a1, .int a2]) (QG_ D (fun q i => some (.int (F_X9_firstStep wc wd a1 a2).1)) (fun q i => True) (fun q k i => [(h_wc, .inl (k_wc, 36, .inl wc)), (h_wd, .inl (k_wd, 6, .inl (F_X9_firstStep wc wd a1 a2).2)), (h_W, .inr (12, [.ref h_wc, .ref h_wd]))]) (fun q k i => [(k_wc, .int), (k_wd, .int)]) (va_A [(h_wc, .inl (k_wc, 36, .inl wc)), (h_wd, .inl (k_wd, 6, .inl wd)), (h_W, .inr (12, [.ref h_wc, .ref h_wd]))] sz)) 0 0 (va_A [(h_wc, .inl (k_wc, 36, .inl wc)), (h_wd, .inl (k_wd, 6, .inl wd)), (h_W, .inr (12, [.ref h_wc, .ref h_wd]))] sz) := by
  refine Met.ofW (cc := cX9_firstStep) (maxL := 6) (ret := (some .int)) (by decide) rfl ?_
  intro p e s m args below meth c s₁ B hml hv
  obtain ⟨rfl, hsz, hP, hK, hD0, hF⟩ := hv
  have hx := B.exec
  have hb := B.bytes
  have hr := B.returns
  have hts := atoms_spec (ws := wsX9_firstStep) B.pre
  have hown : s.vm.findClass RX9 = some m.cls := findClass_of_methodNamed B.named
  have hlocks := B.notSynchronized
  subst hsz
  have hD := hD0.self (sz := s.heap.size)
  generalize hAe : va_A [(h_wc, .inl (k_wc, 36, .inl wc)), (h_wd, .inl (k_wd, 6, .inl wd)), (h_W, .inr (12, [.ref h_wc, .ref h_wd]))] s.heap.size = A at hD hF ⊢
  have hA : ∀ q : Nat, s.heap.size ≤ q → A q := fun q h => by rw [← hAe]; exact Or.inr h
  obtain ⟨H, hHe⟩ : ∃ H : Heap, H = s.heap := ⟨_, rfl⟩
  have hS : va_S A s.heap H [] := by rw [hHe]; exact va_S.rf
  have hP : va_P D vwCl [(h_wc, .inl (k_wc, 36, .inl wc)), (h_wd, .inl (k_wd, 6, .inl wd)), (h_W, .inr (12, [.ref h_wc, .ref h_wd]))] H := by rw [hHe]; exact hP
  rw [← hHe]
  have hi_X9 : ∀ w ∈ wsX90, w ∈ wsX9_firstStep := by decide +kernel
  have hl := lv_entry [.ref h_W, .int a1, .int a2] (n := 6) (Nat.le_of_ble_eq_true rfl)
  rw [lg_entry_eq]
  generalize (lg_sl [.ref h_W, .int a1, .int a2] ++ List.replicate (6 - (lg_sl [.ref h_W, .int a1, .int a2]).length) Slot.unset).toArray = ls at hl ⊢
  have hl : lv_has ls 6 [(0, .ref h_W), (1, .int a1), (2, .int a2)] := hl
  have hM : F_X9_firstStep wc wd a1 a2 = (if a1 = a2 then ((-1), (F_X9_nearestFirst wc wd a1)) else (if (F_X9_distanceTo (F_X9_nearestFirst wc wd a1) a2) < 1000000 then (K_X9_firstStep_27 (L_X9_firstStep_27 wc wd a1 a2 (((6 : Int32).toInt - (0 : Int32).toInt).toNat + 1) 0 (F_X9_nearestFirst wc wd a1))) else ((-1), (F_X9_nearestFirst wc wd a1)))) := rfl
  refine lv_aload_n hx hb dX9_firstStep_0 rfl (lv_at hl 0 rfl) ?_
  refine lv_iload_n hx hb dX9_firstStep_1 rfl (lv_at hl 1 rfl) ?_
  obtain ⟨y9, hy9⟩ : ∃ y9, (F_X9_nearestFirst wc wd a1) = y9 := ⟨_, rfl⟩
  have hcon := (c_X9_nearestFirst l hl0 D ad H.size h_wc h_wd h_W k_wc k_wd wc wd a1)
  rw [hy9] at hcon
  refine kc_ (wc := [(h_wc, .inl (k_wc, 36, .inl wc)), (h_wd, .inl (k_wd, 6, .inl wd)), (h_W, .inr (12, [.ref h_wc, .ref h_wd]))]) (wr := []) (va_runV (As := [.int a1]) (rest := []) ⟨hx, hb, hml, hown, hts⟩ hcon (cwV 1 hts gX9_firstStep_X9_nearestFirst rfl rfl rfl (by decide +kernel) ⟨Nat.le_of_ble_eq_true rfl, Nat.le_of_ble_eq_true rfl⟩) ⟨PC_.blind, va_recv hK hP (ci := 12) (q0 := 2) rfl rfl, PC_.pre hF hK hP hD hS hA [0, 1, 2] [0, 1] rfl (by decide) rfl⟩ rfl rfl hl.1 rfl (lv_room (Nat.le_of_ble_eq_true rfl)) dX9_firstStep_2 ⟨(Nat.le_of_ble_eq_true rfl), (Nat.le_of_ble_eq_true rfl)⟩) hK hP hD hS hA [0, 1, 2] [] [] rfl rfl (by decide) (by decide) rfl (fun qa_1 ka_1 ia H locs hpo hP hD hK hS => ?_)
  subst hy9
  have hP : va_P D vwCl [(h_wc, .inl (k_wc, 36, .inl wc)), (h_wd, .inl (k_wd, 6, .inl (F_X9_nearestFirst wc wd a1))), (h_W, .inr (12, [.ref h_wc, .ref h_wd]))] H := hP
  have hD : va_D A [(h_wc, .inl (k_wc, 36, .inl wc)), (h_wd, .inl (k_wd, 6, .inl (F_X9_nearestFirst wc wd a1))), (h_W, .inr (12, [.ref h_wc, .ref h_wd]))] := hD
  have hK : va_K D vwCl [(k_wc, .int), (k_wd, .int)] s := hK
  refine W.eq (g2 := F0 m 5 ls []) rfl ?_
  refine lv_aload_n hx hb dX9_firstStep_5 rfl (lv_at hl 0 rfl) ?_
  refine lv_iload_n hx hb dX9_firstStep_6 rfl (lv_at hl 2 rfl) ?_
  obtain ⟨y9, hy9⟩ : ∃ y9, (F_X9_distanceTo (F_X9_nearestFirst wc wd a1) a2) = y9 := ⟨_, rfl⟩
  have hcon := (c_X9_distanceTo l hl0 D ad H.size h_wd h_W k_wd (.ref h_wc) (F_X9_nearestFirst wc wd a1) a2)
  rw [hy9] at hcon
  refine kr_ (va_runV (As := [.int a2]) (rest := []) ⟨hx, hb, hml, hown, hts⟩ hcon (cwV 1 hts gX9_firstStep_X9_distanceTo rfl rfl rfl (by decide +kernel) ⟨Nat.le_of_ble_eq_true rfl, Nat.le_of_ble_eq_true rfl⟩) ⟨PR_.blind, va_recv hK hP (ci := 12) (q0 := 2) rfl rfl, PR_.pre hF hK (hP.sub [1, 2] rfl) hS hA [1] rfl⟩ rfl rfl hl.1 rfl (lv_room (Nat.le_of_ble_eq_true rfl)) dX9_firstStep_7 ⟨(Nat.le_of_ble_eq_true rfl), (Nat.le_of_ble_eq_true rfl)⟩) hP hS hA (fun H locs hP hS => ?_)
  subst hy9
  refine W.eq (g2 := F0 m 10 ls [.int (F_X9_distanceTo (F_X9_nearestFirst wc wd a1) a2)]) rfl ?_
  refine lv_istore_n (lv' := [(3, .int (F_X9_distanceTo (F_X9_nearestFirst wc wd a1) a2)), (0, .ref h_W), (1, .int a1), (2, .int a2)]) hx hb dX9_firstStep_10 rfl hl (by decide) rfl (fun ls hl => ?_)
  refine lv_iload_n hx hb dX9_firstStep_11 rfl (lv_at hl 2 rfl) ?_
  refine lv_iload_n hx hb dX9_firstStep_12 rfl (lv_at hl 3 rfl) ?_
  refine lv_icmp_eq (tgt := 22) hx hb dX9_firstStep_13 (by decide) (fun c_3 => ?_) (fun c_3 => ?_)
  · rw [if_pos c_3] at hM
    refine lv_iconst (v := (-1)) hx hb dX9_firstStep_22 (by decide) ?_
    refine W.widen (k := 0) (n := 0) (Nat.le_of_ble_eq_true rfl) (Nat.le_of_ble_eq_true rfl) ?_
    exact W.iret (v := (-1)) hx hb hr (QG_.mk (fun _ => 0) (fun _ => 0) (fun _ => 0) [0, 1, 2] [0, 1] hP hD hK hS (by rw [hM]) trivial (by first | (rw [hM]; rfl) | rfl) (by decide) rfl) hS.2.2 dX9_firstStep_23
  · rw [if_neg c_3] at hM
    refine lv_iload_n hx hb dX9_firstStep_16 rfl (lv_at hl 0 rfl) ?_
    refine lv_ldc (own := RX9) hx hb hown (hts (.constant RX9 38 (1000000)) (List.mem_of_getElem? (i := 1) (by decide +kernel))) dX9_firstStep_17 ?_
    refine lv_icmp_lt (tgt := 24) hx hb dX9_firstStep_19 (by decide) (fun c_4 => ?_) (fun c_4 => ?_)
    · rw [if_pos c_4] at hM
      refine lv_iconst (v := 0) hx hb dX9_firstStep_24 (by decide) ?_
      refine lv_istore (lv' := [(4, .int 0), (3, .int (F_X9_distanceTo (F_X9_nearestFirst wc wd a1) a2)), (0, .ref h_W), (1, .int a1), (2, .int a2)]) hx hb dX9_firstStep_25 hl (by decide) rfl (fun ls hl => ?_)
      refine lpW (τ := Int32 × (Nat → Int32)) (fun k t H locs ls c9 s9 => ((6 : Int32).toInt - (t.1 : Int32).toInt).toNat < k ∧ 0 ≤ (t.1 : Int32).toInt ∧ va_P D vwCl [(h_wc, .inl (k_wc, 36, .inl wc)), (h_wd, .inl (k_wd, 6, .inl t.2)), (h_W, .inr (12, [.ref h_wc, .ref h_wd]))] H ∧ va_D A [(h_wc, .inl (k_wc, 36, .inl wc)), (h_wd, .inl (k_wd, 6, .inl t.2)), (h_W, .inr (12, [.ref h_wc, .ref h_wd]))] ∧ va_S A s.heap H locs ∧ lv_has ls 6 [(4, .int t.1), (3, .int (F_X9_distanceTo (F_X9_nearestFirst wc wd a1) a2)), (0, .ref h_W), (1, .int a1), (2, .int a2)] ∧ F_X9_firstStep wc wd a1 a2 = (K_X9_firstStep_27 (L_X9_firstStep_27 wc wd a1 a2 k t.1 t.2)) ∧ c9 = 0 ∧ s9 = 0) (fun t H locs ls c9 s9 h9 => absurd h9.1 (Nat.not_lt_zero _)) (fun k_5 ih t H locs ls c9 s9 hI => ?_) (((6 : Int32).toInt - (0 : Int32).toInt).toNat + 1) (0, (F_X9_nearestFirst wc wd a1)) ⟨Nat.lt_succ_self _, (show 0 ≤ (0 : Int32).toInt from (by decide +kernel)), hP, hD, hS, (by exact hl), hM, rfl, rfl⟩
      obtain ⟨x27_4, x27_h_wd⟩ := t
      obtain ⟨hk_5, hz_5, hP, hD, hS, hl, hM, hcs, hss⟩ := hI
      replace hcs := hcs.symm
      subst hcs
      replace hss := hss.symm
      subst hss
      have hP : va_P D vwCl [(h_wc, .inl (k_wc, 36, .inl wc)), (h_wd, .inl (k_wd, 6, .inl x27_h_wd)), (h_W, .inr (12, [.ref h_wc, .ref h_wd]))] H := hP
      have hD : va_D A [(h_wc, .inl (k_wc, 36, .inl wc)), (h_wd, .inl (k_wd, 6, .inl x27_h_wd)), (h_W, .inr (12, [.ref h_wc, .ref h_wd]))] := hD
      have hl : lv_has ls 6 [(4, .int x27_4), (3, .int (F_X9_distanceTo (F_X9_nearestFirst wc wd a1) a2)), (0, .ref h_W), (1, .int a1), (2, .int a2)] := hl
      have hz_5 : 0 ≤ (x27_4 : Int32).toInt := hz_5
      have hk_5 : ((6 : Int32).toInt - (x27_4 : Int32).toInt).toNat < k_5 + 1 := hk_5
      have hM : F_X9_firstStep wc wd a1 a2 = (K_X9_firstStep_27 ((if 6 ≤ x27_4 then (none, x27_4, x27_h_wd) else (if (wc (ix ((a1 * 6) + x27_4))) ≤ 0 then ((L_X9_firstStep_27 wc wd a1 a2 k_5) (x27_4 + 1) (F_X9_nearestFirst wc x27_h_wd x27_4)) else (if ((wc (ix ((a1 * 6) + x27_4))) + (F_X9_distanceTo (F_X9_nearestFirst wc x27_h_wd x27_4) a2)) = (F_X9_distanceTo (F_X9_nearestFirst wc wd a1) a2) then ((some (x27_4, (F_X9_nearestFirst wc x27_h_wd x27_4))), x27_4, x27_h_wd) else ((L_X9_firstStep_27 wc wd a1 a2 k_5) (x27_4 + 1) (F_X9_nearestFirst wc x27_h_wd x27_4))))))) := hM
      have ih_5 := ih
      refine lv_iload hx hb dX9_firstStep_27 (lv_at hl 0 rfl) ?_
      refine lv_bipush (v := 6) hx hb dX9_firstStep_29 (by decide) ?_
      refine lv_icmp_ge (tgt := 80) hx hb dX9_firstStep_31 (by decide) (fun c_6 => ?_) (fun c_6 => ?_)
      · rw [if_pos c_6] at hM
        have hM : F_X9_firstStep wc wd a1 a2 = ((-1), x27_h_wd) := hM
        refine lv_iconst (v := (-1)) hx hb dX9_firstStep_80 (by decide) ?_
        refine W.widen (k := 0) (n := 0) (Nat.le_of_ble_eq_true rfl) (Nat.le_of_ble_eq_true rfl) ?_
        exact W.iret (v := (-1)) hx hb hr (QG_.mk (fun _ => 0) (fun _ => 0) (fun _ => 0) [0, 1, 2] [0, 1] hP hD hK hS (by rw [hM]) trivial (by first | (rw [hM]; rfl) | rfl) (by decide) rfl) hS.2.2 dX9_firstStep_81
      · rw [if_neg c_6] at hM
        refine lv_aload_n hx hb dX9_firstStep_34 rfl (lv_at hl 2 rfl) ?_
        refine va_get (D := D) (ci := 12) (v := .ref h_wc) (own := RX9) (C := RX9) (T := TX9) (N := 2) hx hb hts hi_X9 hown hK hP 2 rfl rfl 0 (by decide) (hts (.fieldLink RX9 9 "CanalMaps$Ways" "costs" "[I") (List.mem_of_getElem? (i := 2) (by decide +kernel))) (fun _ h9 => h9) rfl dX9_firstStep_35 ?_
        refine lv_iload_n hx hb dX9_firstStep_38 rfl (lv_at hl 3 rfl) ?_
        refine lv_bipush (v := 6) hx hb dX9_firstStep_39 (by decide) ?_
        refine lv_imul hx hb dX9_firstStep_41 ?_
        refine lv_iload hx hb dX9_firstStep_42 (lv_at hl 0 rfl) ?_
        refine lv_iadd hx hb dX9_firstStep_44 ?_
        refine va_iald hx hb hK hP 0 0 rfl rfl (vinI (by have y1 := f_lt c_4; have y2 := f_nle c_6; have z0 := hy0; have z1 := hy1; have z2 := hy2; have z3 := hy3; have z4 := hz_5; have e_6 : (6 : Int32).toInt = 6 := (by decide +kernel); have e_1000000 : (1000000 : Int32).toInt = 1000000 := (by decide +kernel); have b103 := Int32.toInt_lt (a1); have d103 := Int32.le_toInt (a1); have b104 := Int32.toInt_lt (x27_4); have d104 := Int32.le_toInt (x27_4); have q97 := ix6 (a := a1) (b := x27_4) (by omega) (by omega) (by omega) (by omega); omega) (by have y1 := f_lt c_4; have y2 := f_nle c_6; have z0 := hy0; have z1 := hy1; have z2 := hy2; have z3 := hy3; have z4 := hz_5; have e_6 : (6 : Int32).toInt = 6 := (by decide +kernel); have e_1000000 : (1000000 : Int32).toInt = 1000000 := (by decide +kernel); have b103 := Int32.toInt_lt (a1); have d103 := Int32.le_toInt (a1); have b104 := Int32.toInt_lt (x27_4); have d104 := Int32.le_toInt (x27_4); have q97 := ix6 (a := a1) (b := x27_4) (by omega) (by omega) (by omega) (by omega); omega)) dX9_firstStep_45 ?_
        refine kt_ (v := (wc (ix ((a1 * 6) + x27_4)))) rfl ?_
        refine lv_istore (lv' := [(5, .int (wc (ix ((a1 * 6) + x27_4)))), (4, .int x27_4), (3, .int (F_X9_distanceTo (F_X9_nearestFirst wc wd a1) a2)), (0, .ref h_W), (1, .int a1), (2, .int a2)]) hx hb dX9_firstStep_46 hl (by decide) rfl (fun ls hl => ?_)
        refine lv_aload_n hx hb dX9_firstStep_48 rfl (lv_at hl 3 rfl) ?_
        refine lv_iload hx hb dX9_firstStep_49 (lv_at hl 1 rfl) ?_
        obtain ⟨y9, hy9⟩ : ∃ y9, (F_X9_nearestFirst wc x27_h_wd x27_4) = y9 := ⟨_, rfl⟩
        have hcon := (c_X9_nearestFirst l hl0 D ad H.size h_wc h_wd h_W k_wc k_wd wc x27_h_wd x27_4)
        rw [hy9] at hcon
        refine kc_ (wc := [(h_wc, .inl (k_wc, 36, .inl wc)), (h_wd, .inl (k_wd, 6, .inl x27_h_wd)), (h_W, .inr (12, [.ref h_wc, .ref h_wd]))]) (wr := []) (va_runV (As := [.int x27_4]) (rest := []) ⟨hx, hb, hml, hown, hts⟩ hcon (cwV 1 hts gX9_firstStep_X9_nearestFirst rfl rfl rfl (by decide +kernel) ⟨Nat.le_of_ble_eq_true rfl, Nat.le_of_ble_eq_true rfl⟩) ⟨PC_.blind, va_recv hK hP (ci := 12) (q0 := 2) rfl rfl, PC_.pre hF hK hP hD hS hA [0, 1, 2] [0, 1] rfl (by decide) rfl⟩ rfl rfl hl.1 rfl (lv_room (Nat.le_of_ble_eq_true rfl)) dX9_firstStep_51 ⟨(Nat.le_of_ble_eq_true rfl), (Nat.le_of_ble_eq_true rfl)⟩) hK hP hD hS hA [0, 1, 2] [] [] rfl rfl (by decide) (by decide) rfl (fun qa_7 ka_7 ia H locs hpo hP hD hK hS => ?_)
        subst hy9
        have hP : va_P D vwCl [(h_wc, .inl (k_wc, 36, .inl wc)), (h_wd, .inl (k_wd, 6, .inl (F_X9_nearestFirst wc x27_h_wd x27_4))), (h_W, .inr (12, [.ref h_wc, .ref h_wd]))] H := hP
        have hD : va_D A [(h_wc, .inl (k_wc, 36, .inl wc)), (h_wd, .inl (k_wd, 6, .inl (F_X9_nearestFirst wc x27_h_wd x27_4))), (h_W, .inr (12, [.ref h_wc, .ref h_wd]))] := hD
        have hK : va_K D vwCl [(k_wc, .int), (k_wd, .int)] s := hK
        refine W.eq (g2 := F0 m 54 ls []) rfl ?_
        refine lv_iload hx hb dX9_firstStep_54 (lv_at hl 0 rfl) ?_
        refine lv_if_le (tgt := 74) hx hb dX9_firstStep_56 (by decide) (fun c_8 => ?_) (fun c_8 => ?_)
        · rw [if_pos c_8] at hM
          refine lv_iinc (v := (x27_4 + 1)) (lv' := [(4, .int (x27_4 + 1)), (5, .int (wc (ix ((a1 * 6) + x27_4)))), (3, .int (F_X9_distanceTo (F_X9_nearestFirst wc wd a1) a2)), (0, .ref h_W), (1, .int a1), (2, .int a2)]) hx hb dX9_firstStep_74 hl (k := 1) rfl rfl (by decide) rfl (fun ls hl => ?_)
          refine lv_goto (tgt := 27) hx hb dX9_firstStep_77 (by decide) ?_
          exact ih_5 ((x27_4 + 1), (F_X9_nearestFirst wc x27_h_wd x27_4)) _ _ _ _ _ ⟨lp_up hk_5 c_6, lp_up0 hz_5 c_6, hP, hD, hS, lv_sub hl [0, 2, 3, 4, 5] rfl, hM, rfl, rfl⟩
        · rw [if_neg c_8] at hM
          refine lv_iload hx hb dX9_firstStep_59 (lv_at hl 0 rfl) ?_
          refine lv_aload_n hx hb dX9_firstStep_61 rfl (lv_at hl 3 rfl) ?_
          refine lv_iload_n hx hb dX9_firstStep_62 rfl (lv_at hl 5 rfl) ?_
          obtain ⟨y9, hy9⟩ : ∃ y9, (F_X9_distanceTo (F_X9_nearestFirst wc x27_h_wd x27_4) a2) = y9 := ⟨_, rfl⟩
          have hcon := (c_X9_distanceTo l hl0 D ad H.size h_wd h_W k_wd (.ref h_wc) (F_X9_nearestFirst wc x27_h_wd x27_4) a2)
          rw [hy9] at hcon
          refine kr_ (va_runV (As := [.int a2]) (rest := [.int (wc (ix ((a1 * 6) + x27_4)))]) ⟨hx, hb, hml, hown, hts⟩ hcon (cwV 1 hts gX9_firstStep_X9_distanceTo rfl rfl rfl (by decide +kernel) ⟨Nat.le_of_ble_eq_true rfl, Nat.le_of_ble_eq_true rfl⟩) ⟨PR_.blind, va_recv hK hP (ci := 12) (q0 := 2) rfl rfl, PR_.pre hF hK (hP.sub [1, 2] rfl) hS hA [1] rfl⟩ rfl rfl hl.1 rfl (lv_room (Nat.le_of_ble_eq_true rfl)) dX9_firstStep_63 ⟨(Nat.le_of_ble_eq_true rfl), (Nat.le_of_ble_eq_true rfl)⟩) hP hS hA (fun H locs hP hS => ?_)
          subst hy9
          refine W.eq (g2 := F0 m 66 ls [.int (F_X9_distanceTo (F_X9_nearestFirst wc x27_h_wd x27_4) a2), .int (wc (ix ((a1 * 6) + x27_4)))]) rfl ?_
          refine lv_iadd hx hb dX9_firstStep_66 ?_
          refine lv_iload_n hx hb dX9_firstStep_67 rfl (lv_at hl 2 rfl) ?_
          refine lv_icmp_ne (tgt := 74) hx hb dX9_firstStep_68 (by decide) (fun c_10 => ?_) (fun c_10 => ?_)
          · rw [if_neg c_10] at hM
            refine lv_iinc (v := (x27_4 + 1)) (lv' := [(4, .int (x27_4 + 1)), (5, .int (wc (ix ((a1 * 6) + x27_4)))), (3, .int (F_X9_distanceTo (F_X9_nearestFirst wc wd a1) a2)), (0, .ref h_W), (1, .int a1), (2, .int a2)]) hx hb dX9_firstStep_74 hl (k := 1) rfl rfl (by decide) rfl (fun ls hl => ?_)
            refine lv_goto (tgt := 27) hx hb dX9_firstStep_77 (by decide) ?_
            exact ih_5 ((x27_4 + 1), (F_X9_nearestFirst wc x27_h_wd x27_4)) _ _ _ _ _ ⟨lp_up hk_5 c_6, lp_up0 hz_5 c_6, hP, hD, hS, lv_sub hl [0, 2, 3, 4, 5] rfl, hM, rfl, rfl⟩
          · rw [if_pos c_10] at hM
            have hM : F_X9_firstStep wc wd a1 a2 = (x27_4, (F_X9_nearestFirst wc x27_h_wd x27_4)) := hM
            refine lv_iload hx hb dX9_firstStep_71 (lv_at hl 1 rfl) ?_
            refine W.widen (k := 0) (n := 0) (Nat.le_of_ble_eq_true rfl) (Nat.le_of_ble_eq_true rfl) ?_
            exact W.iret (v := x27_4) hx hb hr (QG_.mk (fun _ => 0) (fun _ => 0) (fun _ => 0) [0, 1, 2] [0, 1] hP hD hK hS (by rw [hM]) trivial (by first | (rw [hM]; rfl) | rfl) (by decide) rfl) hS.2.2 dX9_firstStep_73
    · rw [if_neg c_4] at hM
      refine lv_iconst (v := (-1)) hx hb dX9_firstStep_22 (by decide) ?_
      refine W.widen (k := 0) (n := 0) (Nat.le_of_ble_eq_true rfl) (Nat.le_of_ble_eq_true rfl) ?_
      exact W.iret (v := (-1)) hx hb hr (QG_.mk (fun _ => 0) (fun _ => 0) (fun _ => 0) [0, 1, 2] [0, 1] hP hD hK hS (by rw [hM]) trivial (by first | (rw [hM]; rfl) | rfl) (by decide) rfl) hS.2.2 dX9_firstStep_23
