def F_X2_beginningWith (a1 : Int32) : Nat := (if 43 = a1 then 0 else (if 99 = a1 then 1 else (if 120 = a1 then 2 else (if 115 = a1 then 3 else (if 108 = a1 then 4 else (if 116 = a1 then 5 else 6))))))
theorem R_X2_beginningWith (a : Int32) : F_X2_beginningWith a = 0 ∨ F_X2_beginningWith a = 1 ∨ F_X2_beginningWith a = 2 ∨ F_X2_beginningWith a = 3 ∨ F_X2_beginningWith a = 4 ∨ F_X2_beginningWith a = 5 ∨ F_X2_beginningWith a = 6 := by
  unfold F_X2_beginningWith
  repeat' split
  all_goals simp
set_option maxHeartbeats 4000000 in
set_option maxRecDepth 100000 in
theorem c_X2_beginningWith (l : Launch) (hl0 : l.stackTraces = false) (D : va_G) (ad : Nat → Nat) (sz : Nat) (a1 : Int32) : Met l yX2_beginningWith wsX2_beginningWith ({ frames := 0, cells := 0, slots := 0, locals := 0 }) (PR_ D ad [] [] sz [.int a1]) (QR_ (enV ad (F_X2_beginningWith a1)) (va_A [] sz)) 0 0 (va_A [] sz) := by
  refine Met.ofW (cc := cX2_beginningWith) (maxL := 2) (ret := (some (.object "CanalMaps$Change"))) (by decide) rfl ?_
  intro p e s m args below meth c s₁ B hml hv
  obtain ⟨rfl, hsz, hP, hK, hF⟩ := hv
  have hx := B.exec
  have hb := B.bytes
  have hr := B.returns
  have hts := atoms_spec (ws := wsX2_beginningWith) B.pre
  have hown : s.vm.findClass RX2 = some m.cls := findClass_of_methodNamed B.named
  have hlocks := B.notSynchronized
  subst hsz
  generalize hAe : va_A [] s.heap.size = A at hF ⊢
  have hA : ∀ q : Nat, s.heap.size ≤ q → A q := fun q h => by rw [← hAe]; exact Or.inr h
  obtain ⟨H, hHe⟩ : ∃ H : Heap, H = s.heap := ⟨_, rfl⟩
  have hS : va_S A s.heap H [] := by rw [hHe]; exact va_S.rf
  have hP : va_P D vwCl [] H := by rw [hHe]; exact hP
  rw [← hHe]
  have hl := lv_entry [.int a1] (n := 2) (Nat.le_of_ble_eq_true rfl)
  rw [lg_entry_eq]
  generalize (lg_sl [.int a1] ++ List.replicate (2 - (lg_sl [.int a1]).length) Slot.unset).toArray = ls at hl ⊢
  have hl : lv_has ls 2 [(0, .int a1)] := hl
  have hM : F_X2_beginningWith a1 = (if 43 = a1 then 0 else (if 99 = a1 then 1 else (if 120 = a1 then 2 else (if 115 = a1 then 3 else (if 108 = a1 then 4 else (if 116 = a1 then 5 else 6)))))) := rfl
  refine lv_iconst (v := 0) hx hb dX2_beginningWith_0 (by decide) ?_
  refine lv_istore_n (lv' := [(1, .int 0), (0, .int a1)]) hx hb dX2_beginningWith_1 rfl hl (by decide) rfl (fun ls hl => ?_)
  refine lv_iload_n hx hb dX2_beginningWith_2 rfl (lv_at hl 0 rfl) ?_
  refine va_gets (C := "CanalMaps$Change") (n := "ALL") (d := "[LCanalMaps$Change;") (own := RX2) (ref := "CanalMaps$Change") (v := .ref (ad 8)) hx hb (fxall_ hF).1 hS hown (hts (.fieldLink RX2 49 "CanalMaps$Change" "ALL" "[LCanalMaps$Change;") (List.mem_of_getElem? (i := 1) (by decide +kernel))) (fun _ h9 => h9) dX2_beginningWith_3 ?_
  refine va_tlen (v := 6) hx hb (fxall_ hF).2 hS rfl dX2_beginningWith_6 ?_
  refine lv_icmp_ge (tgt := 34) hx hb dX2_beginningWith_7 (by decide) (fun c9 => absurd c9 (by decide +kernel)) (fun _ => ?_)
  refine va_gets (C := "CanalMaps$Change") (n := "ALL") (d := "[LCanalMaps$Change;") (own := RX2) (ref := "CanalMaps$Change") (v := .ref (ad 8)) hx hb (fxall_ hF).1 hS hown (hts (.fieldLink RX2 49 "CanalMaps$Change" "ALL" "[LCanalMaps$Change;") (List.mem_of_getElem? (i := 1) (by decide +kernel))) (fun _ h9 => h9) dX2_beginningWith_10 ?_
  refine lv_iload_n hx hb dX2_beginningWith_13 rfl (lv_at hl 0 rfl) ?_
  refine vb_tq (v := .ref (ad 0)) hx hb (fxall_ hF).2 hS (vin_ (by decide +kernel)) rfl dX2_beginningWith_14 ?_
  refine va_getE (E := "CanalMaps$Change") (d := "LCanalMaps$Change;") (nm := fx_nm) (F := fx_F) (ad := ad) (i := 0) (own := RX2) (q := ("CanalMaps$Change", "sign", "I", [43, 99, 120, 115, 108, 116])) hx hb hF.1 (by decide) hS hown (List.mem_cons_of_mem _ List.mem_cons_self) (hts (.fieldLink RX2 41 "CanalMaps$Change" "sign" "I") (List.mem_of_getElem? (i := 2) (by decide +kernel))) (fun _ h9 => h9) dX2_beginningWith_15 ?_
  refine kt_ (v := 43) (by decide +kernel) ?_
  refine lv_iload_n hx hb dX2_beginningWith_18 rfl (lv_at hl 1 rfl) ?_
  refine lv_icmp_ne (tgt := 28) hx hb dX2_beginningWith_19 (by decide) (fun c_1 => ?_) (fun c_1 => ?_)
  · rw [if_neg c_1] at hM
    refine lv_iinc (v := 1) (lv' := [(1, .int 1), (0, .int a1)]) hx hb dX2_beginningWith_28 hl (k := 0) rfl (by decide +kernel) (by decide) rfl (fun ls hl => ?_)
    refine lv_goto (tgt := 2) hx hb dX2_beginningWith_31 (by decide) ?_
    refine lv_iload_n hx hb dX2_beginningWith_2 rfl (lv_at hl 0 rfl) ?_
    refine va_gets (C := "CanalMaps$Change") (n := "ALL") (d := "[LCanalMaps$Change;") (own := RX2) (ref := "CanalMaps$Change") (v := .ref (ad 8)) hx hb (fxall_ hF).1 hS hown (hts (.fieldLink RX2 49 "CanalMaps$Change" "ALL" "[LCanalMaps$Change;") (List.mem_of_getElem? (i := 1) (by decide +kernel))) (fun _ h9 => h9) dX2_beginningWith_3 ?_
    refine va_tlen (v := 6) hx hb (fxall_ hF).2 hS rfl dX2_beginningWith_6 ?_
    refine lv_icmp_ge (tgt := 34) hx hb dX2_beginningWith_7 (by decide) (fun c9 => absurd c9 (by decide +kernel)) (fun _ => ?_)
    refine va_gets (C := "CanalMaps$Change") (n := "ALL") (d := "[LCanalMaps$Change;") (own := RX2) (ref := "CanalMaps$Change") (v := .ref (ad 8)) hx hb (fxall_ hF).1 hS hown (hts (.fieldLink RX2 49 "CanalMaps$Change" "ALL" "[LCanalMaps$Change;") (List.mem_of_getElem? (i := 1) (by decide +kernel))) (fun _ h9 => h9) dX2_beginningWith_10 ?_
    refine lv_iload_n hx hb dX2_beginningWith_13 rfl (lv_at hl 0 rfl) ?_
    refine vb_tq (v := .ref (ad 1)) hx hb (fxall_ hF).2 hS (vin_ (by decide +kernel)) rfl dX2_beginningWith_14 ?_
    refine va_getE (E := "CanalMaps$Change") (d := "LCanalMaps$Change;") (nm := fx_nm) (F := fx_F) (ad := ad) (i := 1) (own := RX2) (q := ("CanalMaps$Change", "sign", "I", [43, 99, 120, 115, 108, 116])) hx hb hF.1 (by decide) hS hown (List.mem_cons_of_mem _ List.mem_cons_self) (hts (.fieldLink RX2 41 "CanalMaps$Change" "sign" "I") (List.mem_of_getElem? (i := 2) (by decide +kernel))) (fun _ h9 => h9) dX2_beginningWith_15 ?_
    refine kt_ (v := 99) (by decide +kernel) ?_
    refine lv_iload_n hx hb dX2_beginningWith_18 rfl (lv_at hl 1 rfl) ?_
    refine lv_icmp_ne (tgt := 28) hx hb dX2_beginningWith_19 (by decide) (fun c_2 => ?_) (fun c_2 => ?_)
    · rw [if_neg c_2] at hM
      refine lv_iinc (v := 2) (lv' := [(1, .int 2), (0, .int a1)]) hx hb dX2_beginningWith_28 hl (k := 0) rfl (by decide +kernel) (by decide) rfl (fun ls hl => ?_)
      refine lv_goto (tgt := 2) hx hb dX2_beginningWith_31 (by decide) ?_
      refine lv_iload_n hx hb dX2_beginningWith_2 rfl (lv_at hl 0 rfl) ?_
      refine va_gets (C := "CanalMaps$Change") (n := "ALL") (d := "[LCanalMaps$Change;") (own := RX2) (ref := "CanalMaps$Change") (v := .ref (ad 8)) hx hb (fxall_ hF).1 hS hown (hts (.fieldLink RX2 49 "CanalMaps$Change" "ALL" "[LCanalMaps$Change;") (List.mem_of_getElem? (i := 1) (by decide +kernel))) (fun _ h9 => h9) dX2_beginningWith_3 ?_
      refine va_tlen (v := 6) hx hb (fxall_ hF).2 hS rfl dX2_beginningWith_6 ?_
      refine lv_icmp_ge (tgt := 34) hx hb dX2_beginningWith_7 (by decide) (fun c9 => absurd c9 (by decide +kernel)) (fun _ => ?_)
      refine va_gets (C := "CanalMaps$Change") (n := "ALL") (d := "[LCanalMaps$Change;") (own := RX2) (ref := "CanalMaps$Change") (v := .ref (ad 8)) hx hb (fxall_ hF).1 hS hown (hts (.fieldLink RX2 49 "CanalMaps$Change" "ALL" "[LCanalMaps$Change;") (List.mem_of_getElem? (i := 1) (by decide +kernel))) (fun _ h9 => h9) dX2_beginningWith_10 ?_
      refine lv_iload_n hx hb dX2_beginningWith_13 rfl (lv_at hl 0 rfl) ?_
      refine vb_tq (v := .ref (ad 2)) hx hb (fxall_ hF).2 hS (vin_ (by decide +kernel)) rfl dX2_beginningWith_14 ?_
      refine va_getE (E := "CanalMaps$Change") (d := "LCanalMaps$Change;") (nm := fx_nm) (F := fx_F) (ad := ad) (i := 2) (own := RX2) (q := ("CanalMaps$Change", "sign", "I", [43, 99, 120, 115, 108, 116])) hx hb hF.1 (by decide) hS hown (List.mem_cons_of_mem _ List.mem_cons_self) (hts (.fieldLink RX2 41 "CanalMaps$Change" "sign" "I") (List.mem_of_getElem? (i := 2) (by decide +kernel))) (fun _ h9 => h9) dX2_beginningWith_15 ?_
      refine kt_ (v := 120) (by decide +kernel) ?_
      refine lv_iload_n hx hb dX2_beginningWith_18 rfl (lv_at hl 1 rfl) ?_
      refine lv_icmp_ne (tgt := 28) hx hb dX2_beginningWith_19 (by decide) (fun c_3 => ?_) (fun c_3 => ?_)
      · rw [if_neg c_3] at hM
        refine lv_iinc (v := 3) (lv' := [(1, .int 3), (0, .int a1)]) hx hb dX2_beginningWith_28 hl (k := 0) rfl (by decide +kernel) (by decide) rfl (fun ls hl => ?_)
        refine lv_goto (tgt := 2) hx hb dX2_beginningWith_31 (by decide) ?_
        refine lv_iload_n hx hb dX2_beginningWith_2 rfl (lv_at hl 0 rfl) ?_
        refine va_gets (C := "CanalMaps$Change") (n := "ALL") (d := "[LCanalMaps$Change;") (own := RX2) (ref := "CanalMaps$Change") (v := .ref (ad 8)) hx hb (fxall_ hF).1 hS hown (hts (.fieldLink RX2 49 "CanalMaps$Change" "ALL" "[LCanalMaps$Change;") (List.mem_of_getElem? (i := 1) (by decide +kernel))) (fun _ h9 => h9) dX2_beginningWith_3 ?_
        refine va_tlen (v := 6) hx hb (fxall_ hF).2 hS rfl dX2_beginningWith_6 ?_
        refine lv_icmp_ge (tgt := 34) hx hb dX2_beginningWith_7 (by decide) (fun c9 => absurd c9 (by decide +kernel)) (fun _ => ?_)
        refine va_gets (C := "CanalMaps$Change") (n := "ALL") (d := "[LCanalMaps$Change;") (own := RX2) (ref := "CanalMaps$Change") (v := .ref (ad 8)) hx hb (fxall_ hF).1 hS hown (hts (.fieldLink RX2 49 "CanalMaps$Change" "ALL" "[LCanalMaps$Change;") (List.mem_of_getElem? (i := 1) (by decide +kernel))) (fun _ h9 => h9) dX2_beginningWith_10 ?_
        refine lv_iload_n hx hb dX2_beginningWith_13 rfl (lv_at hl 0 rfl) ?_
        refine vb_tq (v := .ref (ad 3)) hx hb (fxall_ hF).2 hS (vin_ (by decide +kernel)) rfl dX2_beginningWith_14 ?_
        refine va_getE (E := "CanalMaps$Change") (d := "LCanalMaps$Change;") (nm := fx_nm) (F := fx_F) (ad := ad) (i := 3) (own := RX2) (q := ("CanalMaps$Change", "sign", "I", [43, 99, 120, 115, 108, 116])) hx hb hF.1 (by decide) hS hown (List.mem_cons_of_mem _ List.mem_cons_self) (hts (.fieldLink RX2 41 "CanalMaps$Change" "sign" "I") (List.mem_of_getElem? (i := 2) (by decide +kernel))) (fun _ h9 => h9) dX2_beginningWith_15 ?_
        refine kt_ (v := 115) (by decide +kernel) ?_
        refine lv_iload_n hx hb dX2_beginningWith_18 rfl (lv_at hl 1 rfl) ?_
        refine lv_icmp_ne (tgt := 28) hx hb dX2_beginningWith_19 (by decide) (fun c_4 => ?_) (fun c_4 => ?_)
        · rw [if_neg c_4] at hM
          refine lv_iinc (v := 4) (lv' := [(1, .int 4), (0, .int a1)]) hx hb dX2_beginningWith_28 hl (k := 0) rfl (by decide +kernel) (by decide) rfl (fun ls hl => ?_)
          refine lv_goto (tgt := 2) hx hb dX2_beginningWith_31 (by decide) ?_
          refine lv_iload_n hx hb dX2_beginningWith_2 rfl (lv_at hl 0 rfl) ?_
          refine va_gets (C := "CanalMaps$Change") (n := "ALL") (d := "[LCanalMaps$Change;") (own := RX2) (ref := "CanalMaps$Change") (v := .ref (ad 8)) hx hb (fxall_ hF).1 hS hown (hts (.fieldLink RX2 49 "CanalMaps$Change" "ALL" "[LCanalMaps$Change;") (List.mem_of_getElem? (i := 1) (by decide +kernel))) (fun _ h9 => h9) dX2_beginningWith_3 ?_
          refine va_tlen (v := 6) hx hb (fxall_ hF).2 hS rfl dX2_beginningWith_6 ?_
          refine lv_icmp_ge (tgt := 34) hx hb dX2_beginningWith_7 (by decide) (fun c9 => absurd c9 (by decide +kernel)) (fun _ => ?_)
          refine va_gets (C := "CanalMaps$Change") (n := "ALL") (d := "[LCanalMaps$Change;") (own := RX2) (ref := "CanalMaps$Change") (v := .ref (ad 8)) hx hb (fxall_ hF).1 hS hown (hts (.fieldLink RX2 49 "CanalMaps$Change" "ALL" "[LCanalMaps$Change;") (List.mem_of_getElem? (i := 1) (by decide +kernel))) (fun _ h9 => h9) dX2_beginningWith_10 ?_
          refine lv_iload_n hx hb dX2_beginningWith_13 rfl (lv_at hl 0 rfl) ?_
          refine vb_tq (v := .ref (ad 4)) hx hb (fxall_ hF).2 hS (vin_ (by decide +kernel)) rfl dX2_beginningWith_14 ?_
          refine va_getE (E := "CanalMaps$Change") (d := "LCanalMaps$Change;") (nm := fx_nm) (F := fx_F) (ad := ad) (i := 4) (own := RX2) (q := ("CanalMaps$Change", "sign", "I", [43, 99, 120, 115, 108, 116])) hx hb hF.1 (by decide) hS hown (List.mem_cons_of_mem _ List.mem_cons_self) (hts (.fieldLink RX2 41 "CanalMaps$Change" "sign" "I") (List.mem_of_getElem? (i := 2) (by decide +kernel))) (fun _ h9 => h9) dX2_beginningWith_15 ?_
          refine kt_ (v := 108) (by decide +kernel) ?_
          refine lv_iload_n hx hb dX2_beginningWith_18 rfl (lv_at hl 1 rfl) ?_
          refine lv_icmp_ne (tgt := 28) hx hb dX2_beginningWith_19 (by decide) (fun c_5 => ?_) (fun c_5 => ?_)
          · rw [if_neg c_5] at hM
            refine lv_iinc (v := 5) (lv' := [(1, .int 5), (0, .int a1)]) hx hb dX2_beginningWith_28 hl (k := 0) rfl (by decide +kernel) (by decide) rfl (fun ls hl => ?_)
            refine lv_goto (tgt := 2) hx hb dX2_beginningWith_31 (by decide) ?_
            refine lv_iload_n hx hb dX2_beginningWith_2 rfl (lv_at hl 0 rfl) ?_
            refine va_gets (C := "CanalMaps$Change") (n := "ALL") (d := "[LCanalMaps$Change;") (own := RX2) (ref := "CanalMaps$Change") (v := .ref (ad 8)) hx hb (fxall_ hF).1 hS hown (hts (.fieldLink RX2 49 "CanalMaps$Change" "ALL" "[LCanalMaps$Change;") (List.mem_of_getElem? (i := 1) (by decide +kernel))) (fun _ h9 => h9) dX2_beginningWith_3 ?_
            refine va_tlen (v := 6) hx hb (fxall_ hF).2 hS rfl dX2_beginningWith_6 ?_
            refine lv_icmp_ge (tgt := 34) hx hb dX2_beginningWith_7 (by decide) (fun c9 => absurd c9 (by decide +kernel)) (fun _ => ?_)
            refine va_gets (C := "CanalMaps$Change") (n := "ALL") (d := "[LCanalMaps$Change;") (own := RX2) (ref := "CanalMaps$Change") (v := .ref (ad 8)) hx hb (fxall_ hF).1 hS hown (hts (.fieldLink RX2 49 "CanalMaps$Change" "ALL" "[LCanalMaps$Change;") (List.mem_of_getElem? (i := 1) (by decide +kernel))) (fun _ h9 => h9) dX2_beginningWith_10 ?_
            refine lv_iload_n hx hb dX2_beginningWith_13 rfl (lv_at hl 0 rfl) ?_
            refine vb_tq (v := .ref (ad 5)) hx hb (fxall_ hF).2 hS (vin_ (by decide +kernel)) rfl dX2_beginningWith_14 ?_
            refine va_getE (E := "CanalMaps$Change") (d := "LCanalMaps$Change;") (nm := fx_nm) (F := fx_F) (ad := ad) (i := 5) (own := RX2) (q := ("CanalMaps$Change", "sign", "I", [43, 99, 120, 115, 108, 116])) hx hb hF.1 (by decide) hS hown (List.mem_cons_of_mem _ List.mem_cons_self) (hts (.fieldLink RX2 41 "CanalMaps$Change" "sign" "I") (List.mem_of_getElem? (i := 2) (by decide +kernel))) (fun _ h9 => h9) dX2_beginningWith_15 ?_
            refine kt_ (v := 116) (by decide +kernel) ?_
            refine lv_iload_n hx hb dX2_beginningWith_18 rfl (lv_at hl 1 rfl) ?_
            refine lv_icmp_ne (tgt := 28) hx hb dX2_beginningWith_19 (by decide) (fun c_6 => ?_) (fun c_6 => ?_)
            · rw [if_neg c_6] at hM
              refine lv_iinc (v := 6) (lv' := [(1, .int 6), (0, .int a1)]) hx hb dX2_beginningWith_28 hl (k := 0) rfl (by decide +kernel) (by decide) rfl (fun ls hl => ?_)
              refine lv_goto (tgt := 2) hx hb dX2_beginningWith_31 (by decide) ?_
              refine lv_iload_n hx hb dX2_beginningWith_2 rfl (lv_at hl 0 rfl) ?_
              refine va_gets (C := "CanalMaps$Change") (n := "ALL") (d := "[LCanalMaps$Change;") (own := RX2) (ref := "CanalMaps$Change") (v := .ref (ad 8)) hx hb (fxall_ hF).1 hS hown (hts (.fieldLink RX2 49 "CanalMaps$Change" "ALL" "[LCanalMaps$Change;") (List.mem_of_getElem? (i := 1) (by decide +kernel))) (fun _ h9 => h9) dX2_beginningWith_3 ?_
              refine va_tlen (v := 6) hx hb (fxall_ hF).2 hS rfl dX2_beginningWith_6 ?_
              refine lv_icmp_ge (tgt := 34) hx hb dX2_beginningWith_7 (by decide) (fun _ => ?_) (fun c9 => absurd (by decide +kernel) c9)
              refine lv_null hx hb dX2_beginningWith_34 ?_
              refine W.widen (k := 0) (n := 0) (Nat.le_of_ble_eq_true rfl) (Nat.le_of_ble_eq_true rfl) ?_
              exact W.aret (v := .null) hx hb hr (Or.inl ⟨_, rfl⟩) (Or.inl rfl) (QR_.mk hS (by rw [hM] <;> rfl)) hS.2.2 dX2_beginningWith_35
            · rw [if_pos c_6] at hM
              refine va_gets (C := "CanalMaps$Change") (n := "ALL") (d := "[LCanalMaps$Change;") (own := RX2) (ref := "CanalMaps$Change") (v := .ref (ad 8)) hx hb (fxall_ hF).1 hS hown (hts (.fieldLink RX2 49 "CanalMaps$Change" "ALL" "[LCanalMaps$Change;") (List.mem_of_getElem? (i := 1) (by decide +kernel))) (fun _ h9 => h9) dX2_beginningWith_22 ?_
              refine lv_iload_n hx hb dX2_beginningWith_25 rfl (lv_at hl 0 rfl) ?_
              refine vb_tq (v := .ref (ad 5)) hx hb (fxall_ hF).2 hS (vin_ (by decide +kernel)) rfl dX2_beginningWith_26 ?_
              refine W.widen (k := 0) (n := 0) (Nat.le_of_ble_eq_true rfl) (Nat.le_of_ble_eq_true rfl) ?_
              exact W.aret (v := .ref (ad 5)) hx hb hr (Or.inl ⟨_, rfl⟩) (Or.inr ⟨_, rfl⟩) (QR_.mk hS (by rw [hM] <;> rfl)) hS.2.2 dX2_beginningWith_27
          · rw [if_pos c_5] at hM
            refine va_gets (C := "CanalMaps$Change") (n := "ALL") (d := "[LCanalMaps$Change;") (own := RX2) (ref := "CanalMaps$Change") (v := .ref (ad 8)) hx hb (fxall_ hF).1 hS hown (hts (.fieldLink RX2 49 "CanalMaps$Change" "ALL" "[LCanalMaps$Change;") (List.mem_of_getElem? (i := 1) (by decide +kernel))) (fun _ h9 => h9) dX2_beginningWith_22 ?_
            refine lv_iload_n hx hb dX2_beginningWith_25 rfl (lv_at hl 0 rfl) ?_
            refine vb_tq (v := .ref (ad 4)) hx hb (fxall_ hF).2 hS (vin_ (by decide +kernel)) rfl dX2_beginningWith_26 ?_
            refine W.widen (k := 0) (n := 0) (Nat.le_of_ble_eq_true rfl) (Nat.le_of_ble_eq_true rfl) ?_
            exact W.aret (v := .ref (ad 4)) hx hb hr (Or.inl ⟨_, rfl⟩) (Or.inr ⟨_, rfl⟩) (QR_.mk hS (by rw [hM] <;> rfl)) hS.2.2 dX2_beginningWith_27
        · rw [if_pos c_4] at hM
          refine va_gets (C := "CanalMaps$Change") (n := "ALL") (d := "[LCanalMaps$Change;") (own := RX2) (ref := "CanalMaps$Change") (v := .ref (ad 8)) hx hb (fxall_ hF).1 hS hown (hts (.fieldLink RX2 49 "CanalMaps$Change" "ALL" "[LCanalMaps$Change;") (List.mem_of_getElem? (i := 1) (by decide +kernel))) (fun _ h9 => h9) dX2_beginningWith_22 ?_
          refine lv_iload_n hx hb dX2_beginningWith_25 rfl (lv_at hl 0 rfl) ?_
          refine vb_tq (v := .ref (ad 3)) hx hb (fxall_ hF).2 hS (vin_ (by decide +kernel)) rfl dX2_beginningWith_26 ?_
          refine W.widen (k := 0) (n := 0) (Nat.le_of_ble_eq_true rfl) (Nat.le_of_ble_eq_true rfl) ?_
          exact W.aret (v := .ref (ad 3)) hx hb hr (Or.inl ⟨_, rfl⟩) (Or.inr ⟨_, rfl⟩) (QR_.mk hS (by rw [hM] <;> rfl)) hS.2.2 dX2_beginningWith_27
      · rw [if_pos c_3] at hM
        refine va_gets (C := "CanalMaps$Change") (n := "ALL") (d := "[LCanalMaps$Change;") (own := RX2) (ref := "CanalMaps$Change") (v := .ref (ad 8)) hx hb (fxall_ hF).1 hS hown (hts (.fieldLink RX2 49 "CanalMaps$Change" "ALL" "[LCanalMaps$Change;") (List.mem_of_getElem? (i := 1) (by decide +kernel))) (fun _ h9 => h9) dX2_beginningWith_22 ?_
        refine lv_iload_n hx hb dX2_beginningWith_25 rfl (lv_at hl 0 rfl) ?_
        refine vb_tq (v := .ref (ad 2)) hx hb (fxall_ hF).2 hS (vin_ (by decide +kernel)) rfl dX2_beginningWith_26 ?_
        refine W.widen (k := 0) (n := 0) (Nat.le_of_ble_eq_true rfl) (Nat.le_of_ble_eq_true rfl) ?_
        exact W.aret (v := .ref (ad 2)) hx hb hr (Or.inl ⟨_, rfl⟩) (Or.inr ⟨_, rfl⟩) (QR_.mk hS (by rw [hM] <;> rfl)) hS.2.2 dX2_beginningWith_27
    · rw [if_pos c_2] at hM
      refine va_gets (C := "CanalMaps$Change") (n := "ALL") (d := "[LCanalMaps$Change;") (own := RX2) (ref := "CanalMaps$Change") (v := .ref (ad 8)) hx hb (fxall_ hF).1 hS hown (hts (.fieldLink RX2 49 "CanalMaps$Change" "ALL" "[LCanalMaps$Change;") (List.mem_of_getElem? (i := 1) (by decide +kernel))) (fun _ h9 => h9) dX2_beginningWith_22 ?_
      refine lv_iload_n hx hb dX2_beginningWith_25 rfl (lv_at hl 0 rfl) ?_
      refine vb_tq (v := .ref (ad 1)) hx hb (fxall_ hF).2 hS (vin_ (by decide +kernel)) rfl dX2_beginningWith_26 ?_
      refine W.widen (k := 0) (n := 0) (Nat.le_of_ble_eq_true rfl) (Nat.le_of_ble_eq_true rfl) ?_
      exact W.aret (v := .ref (ad 1)) hx hb hr (Or.inl ⟨_, rfl⟩) (Or.inr ⟨_, rfl⟩) (QR_.mk hS (by rw [hM] <;> rfl)) hS.2.2 dX2_beginningWith_27
  · rw [if_pos c_1] at hM
    refine va_gets (C := "CanalMaps$Change") (n := "ALL") (d := "[LCanalMaps$Change;") (own := RX2) (ref := "CanalMaps$Change") (v := .ref (ad 8)) hx hb (fxall_ hF).1 hS hown (hts (.fieldLink RX2 49 "CanalMaps$Change" "ALL" "[LCanalMaps$Change;") (List.mem_of_getElem? (i := 1) (by decide +kernel))) (fun _ h9 => h9) dX2_beginningWith_22 ?_
    refine lv_iload_n hx hb dX2_beginningWith_25 rfl (lv_at hl 0 rfl) ?_
    refine vb_tq (v := .ref (ad 0)) hx hb (fxall_ hF).2 hS (vin_ (by decide +kernel)) rfl dX2_beginningWith_26 ?_
    refine W.widen (k := 0) (n := 0) (Nat.le_of_ble_eq_true rfl) (Nat.le_of_ble_eq_true rfl) ?_
    exact W.aret (v := .ref (ad 0)) hx hb hr (Or.inl ⟨_, rfl⟩) (Or.inr ⟨_, rfl⟩) (QR_.mk hS (by rw [hM] <;> rfl)) hS.2.2 dX2_beginningWith_27
