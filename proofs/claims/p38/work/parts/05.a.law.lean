def F_L_cost (cs : Nat → Int32) (n : Int32) (a2 : Int32) (a3 : Int32) : Int32 := (if (F_X10_cost cs n a2 a3).1 = 0 then (F_X10_cost cs n a2 a3).2 else (if (F_X10_cost cs n a2 a3).1 = 2 then (-1001) else (-1002)))
set_option maxHeartbeats 4000000 in
set_option maxRecDepth 100000 in
theorem c_L_cost (l : Launch) (hl0 : l.stackTraces = false) (D : va_G) (ad : Nat → Nat) (sz : Nat) (h_cs : Nat) (h_S : Nat) (h_M : Nat) (k_cs : ClassId) (h_S_0 : Value) (h_S_1 : Value) (h_S_3 : Value) (h_S_4 : Value) (h_S_6 : Value) (h_S_7 : Value) (h_S_8 : Value) (h_S_9 : Value) (h_M_1 : Value) (h_M_2 : Value) (h_M_3 : Value) (h_M_4 : Value) (h_M_5 : Value) (h_M_6 : Value) (h_M_7 : Value) (h_M_8 : Value) (h_M_9 : Value) (cs : Nat → Int32) (n : Int32) (a2 : Int32) (a3 : Int32) (hy0 : n.toInt ≤ 6) : Met l yL_cost wsL_cost ({ frames := 8, cells := 3, slots := 18, locals := 148 }) (PR_ D ad [(h_cs, .inl (k_cs, 36, .inl cs)), (h_S, .inr (11, [h_S_0, h_S_1, .ref h_cs, h_S_3, h_S_4, .int n, h_S_6, h_S_7, h_S_8, h_S_9])), (h_M, .inr (13, [.ref h_S, h_M_1, h_M_2, h_M_3, h_M_4, h_M_5, h_M_6, h_M_7, h_M_8, h_M_9]))] [(k_cs, .int)] sz [.ref h_M, .int a2, .int a3]) (QR_ (.int (F_L_cost cs n a2 a3)) (va_A [] sz)) 3 18 (va_A [] sz) := by
  refine va_MetW (cc := cL_cost) (maxL := 4) (ret := (some .int)) (by decide) rfl ?_
  intro p e s m args below meth c s₁ B hml hv
  obtain ⟨rfl, hsz, hP, hK, hF⟩ := hv
  have hx := B.exec
  have hb := B.bytes
  have hr := B.returns
  have hts := atoms_spec (ws := wsL_cost) B.pre
  have hown : s.vm.findClass RL = some m.cls := findClass_of_methodNamed B.named
  have hlocks := B.notSynchronized
  have htb := vx_table (x := yL_cost) B (hts _ (List.mem_cons_self))
  subst hsz
  generalize hAe : va_A [] s.heap.size = A at hF ⊢
  have hA : ∀ q : Nat, s.heap.size ≤ q → A q := fun q h => by rw [← hAe]; exact Or.inr h
  obtain ⟨H, hHe⟩ : ∃ H : Heap, H = s.heap := ⟨_, rfl⟩
  have hS : va_S A s.heap H [] := by rw [hHe]; exact va_S.rf
  have hP : va_P D vwCl [(h_cs, .inl (k_cs, 36, .inl cs)), (h_S, .inr (11, [h_S_0, h_S_1, .ref h_cs, h_S_3, h_S_4, .int n, h_S_6, h_S_7, h_S_8, h_S_9])), (h_M, .inr (13, [.ref h_S, h_M_1, h_M_2, h_M_3, h_M_4, h_M_5, h_M_6, h_M_7, h_M_8, h_M_9]))] H := by rw [hHe]; exact hP
  rw [← hHe]
  have hl := lv_entry [.ref h_M, .int a2, .int a3] (n := 4) (Nat.le_of_ble_eq_true rfl)
  rw [lg_entry_eq]
  generalize (lg_sl [.ref h_M, .int a2, .int a3] ++ List.replicate (4 - (lg_sl [.ref h_M, .int a2, .int a3]).length) Slot.unset).toArray = ls at hl ⊢
  have hl : lv_has ls 4 [(0, .ref h_M), (1, .int a2), (2, .int a3)] := hl
  have hM : F_L_cost cs n a2 a3 = (if (F_X10_cost cs n a2 a3).1 = 0 then (F_X10_cost cs n a2 a3).2 else (if (F_X10_cost cs n a2 a3).1 = 2 then (-1001) else (-1002))) := rfl
  refine lv_aload_n hx hb dL_cost_0 rfl (lv_at hl 0 rfl) ?_
  refine lv_iload_n hx hb dL_cost_1 rfl (lv_at hl 1 rfl) ?_
  refine lv_iload_n hx hb dL_cost_2 rfl (lv_at hl 2 rfl) ?_
  refine kzr_ (vx_runV (As := [.int a2, .int a3]) (rest := []) ⟨hx, hb, hml, hown, hts⟩ (c_X10_cost l hl0 D ad H.size h_cs h_S h_M k_cs (h_S_0) (h_S_1) (h_S_3) (h_S_4) (h_S_6) (h_S_7) (h_S_8) (h_S_9) (h_M_1) (h_M_2) (h_M_3) (h_M_4) (h_M_5) (h_M_6) (h_M_7) (h_M_8) (h_M_9) cs n a2 a3 (by have z0 := hy0; omega)) (cwV 2 hts gL_cost_X10_cost rfl rfl rfl (by decide +kernel) ⟨Nat.le_of_ble_eq_true rfl, Nat.le_of_ble_eq_true rfl⟩) ⟨PR_.blind, va_recv hK hP (ci := 13) (q0 := 2) rfl rfl, PR_.pre hF hK (hP.sub [0, 1, 2] rfl) hS hA [0] rfl⟩ rfl rfl hl.1 rfl (lv_room (Nat.le_of_ble_eq_true rfl)) dL_cost_3 ⟨(Nat.le_of_ble_eq_true rfl), (Nat.le_of_ble_eq_true rfl)⟩) hP hS hA (fun H locs c_2 hP hS => ?_) (fun E9 ce q9 H locs hE hP hS hce hvm hcl => ?_)
  · rw [if_pos c_2] at hM
    refine W.eq (g2 := F0 m 6 ls [.int (F_X10_cost cs n a2 a3).2]) rfl ?_
    refine W.widen (k := 3) (n := 18) (Nat.le_of_ble_eq_true rfl) (Nat.le_of_ble_eq_true rfl) ?_
    exact W.iret (v := (F_X10_cost cs n a2 a3).2) hx hb hr (QR_.mk hS (by rw [hM])) hS.2.2 dL_cost_6
  · rcases hE with ⟨rfl, c_2⟩ | ⟨rfl, c_2⟩
    · rw [if_neg (show ¬ (F_X10_cost cs n a2 a3).1 = 0 from by rw [c_2]; decide)] at hM
      rw [if_pos c_2] at hM
      refine vx_catch (own := RL) (name := "java/lang/IndexOutOfBoundsException") (E := "java/lang/IndexOutOfBoundsException") hown [] (⟨0, 6, 7, 36⟩ : ExceptionTableEntry) [(⟨0, 6, 12, 43⟩ : ExceptionTableEntry)] (htb.trans rfl) (fun z hz => by cases hz) (by decide) (by decide) (hts (.classLink RL 36 "java/lang/IndexOutOfBoundsException") (List.mem_of_getElem? (i := 1) (by decide +kernel))) (fxk_ hF "java/lang/IndexOutOfBoundsException" "java/lang/IndexOutOfBoundsException") hce hvm hcl ?_
      refine W.eq (g2 := F0 m 7 ls [.ref q9]) rfl ?_
      refine lv_astore_n (lv' := [(3, .ref q9), (0, .ref h_M), (1, .int a2), (2, .int a3)]) hx hb dL_cost_7 rfl hl (by decide) rfl (fun ls hl => ?_)
      refine lv_sipush (v := (-1001)) hx hb dL_cost_8 (by decide +kernel) ?_
      refine W.widen (k := 3) (n := 18) (Nat.le_of_ble_eq_true rfl) (Nat.le_of_ble_eq_true rfl) ?_
      exact W.iret (v := (-1001)) hx hb hr (QR_.mk hS (by rw [hM])) hS.2.2 dL_cost_11
    · rw [if_neg (show ¬ (F_X10_cost cs n a2 a3).1 = 0 from by rw [c_2]; decide)] at hM
      rw [if_neg (show ¬ (F_X10_cost cs n a2 a3).1 = 2 from by rw [c_2]; decide)] at hM
      refine vx_catch (own := RL) (name := "java/util/NoSuchElementException") (E := "java/util/NoSuchElementException") hown [(⟨0, 6, 7, 36⟩ : ExceptionTableEntry)] (⟨0, 6, 12, 43⟩ : ExceptionTableEntry) [] (htb.trans rfl) (List.forall_mem_cons.mpr ⟨(Or.inr ⟨by decide, "java/lang/IndexOutOfBoundsException", (hts (.classLink RL 36 "java/lang/IndexOutOfBoundsException") (List.mem_of_getElem? (i := 1) (by decide +kernel))), fxd_ hF "java/util/NoSuchElementException" "java/lang/IndexOutOfBoundsException"⟩), (fun z hz => absurd hz List.not_mem_nil)⟩) (by decide) (by decide) (fxl_ hF (43, "java/util/NoSuchElementException")) (fxk_ hF "java/util/NoSuchElementException" "java/util/NoSuchElementException") hce hvm hcl ?_
      refine W.eq (g2 := F0 m 12 ls [.ref q9]) rfl ?_
      refine lv_astore_n (lv' := [(3, .ref q9), (0, .ref h_M), (1, .int a2), (2, .int a3)]) hx hb dL_cost_12 rfl hl (by decide) rfl (fun ls hl => ?_)
      refine lv_sipush (v := (-1002)) hx hb dL_cost_13 (by decide +kernel) ?_
      refine W.widen (k := 3) (n := 18) (Nat.le_of_ble_eq_true rfl) (Nat.le_of_ble_eq_true rfl) ?_
      exact W.iret (v := (-1002)) hx hb hr (QR_.mk hS (by rw [hM])) hS.2.2 dL_cost_16
def F_L_page (PP : List PG) (mp : Nat → Int32) (n : Int32) (tk : Int32) (a2 : Int32) (a3 : Int32) (a4 : Int32) : Int32 := (if (F_X10_page PP mp n tk a2 a3 a4).1 = 0 then (F_X10_page PP mp n tk a2 a3 a4).2 else (if (F_X10_page PP mp n tk a2 a3 a4).1 = 2 then (-1001) else (if (F_X10_page PP mp n tk a2 a3 a4).1 = 3 then (-1002) else (-1003))))
set_option maxHeartbeats 4000000 in
set_option maxRecDepth 100000 in
theorem c_L_page (l : Launch) (hl0 : l.stackTraces = false) (D : va_G) (ad : Nat → Nat) (sz : Nat) (h_el : Nat) (h_li : Nat) (h_A : Nat) (h_mp : Nat) (h_S : Nat) (h_M : Nat) (k_el : ClassId) (k_mp : ClassId) (h_li_0 : Value) (h_S_1 : Value) (h_S_2 : Value) (h_S_4 : Value) (h_S_7 : Value) (h_S_8 : Value) (h_S_9 : Value) (h_M_1 : Value) (h_M_2 : Value) (h_M_3 : Value) (h_M_4 : Value) (h_M_5 : Value) (h_M_6 : Value) (h_M_7 : Value) (h_M_8 : Value) (h_M_9 : Value) (kI : ClassId) (AL : List (Nat × Nat)) (PP : List PG) (capE : Nat) (mp : Nat → Int32) (n : Int32) (tk : Int32) (a2 : Int32) (a3 : Int32) (a4 : Int32) (hlen : AL.length = PP.length) (hpos : 0 < PP.length) (hbig : PP.length ≤ 2000000) (hy0 : n.toInt ≤ 6) (hy1 : PP.length ≤ capE) : Met l yL_page wsL_page ({ frames := 8, cells := 3, slots := 18, locals := 149 }) (PR_ D ad ([(h_el, .inl (k_el, capE, .inr (.inr (.inr (.inr (egl AL)))))), (h_li, .inr (4, [h_li_0, .ref h_el, .int (nI PP.length)])), (h_A, .inr (5, [.ref h_li, .ref (pad AL 0)])), (h_mp, .inl (k_mp, 36, .inl mp)), (h_S, .inr (11, [.ref h_A, h_S_1, h_S_2, .ref h_mp, h_S_4, .int n, .int tk, h_S_7, h_S_8, h_S_9])), (h_M, .inr (13, [.ref h_S, h_M_1, h_M_2, h_M_3, h_M_4, h_M_5, h_M_6, h_M_7, h_M_8, h_M_9]))] ++ pgl kI AL PP) [(k_el, .object "java/lang/Object"), (k_mp, .int), (kI, .int)] sz [.ref h_M, .int a2, .int a3, .int a4]) (QR_ (.int (F_L_page PP mp n tk a2 a3 a4)) (va_A [] sz)) 3 18 (va_A [] sz) := by
  refine va_MetW (cc := cL_page) (maxL := 5) (ret := (some .int)) (by decide) rfl ?_
  intro p e s m args below meth c s₁ B hml hv
  obtain ⟨rfl, hsz, hP, hK, hF⟩ := hv
  have hx := B.exec
  have hb := B.bytes
  have hr := B.returns
  have hts := atoms_spec (ws := wsL_page) B.pre
  have hown : s.vm.findClass RL = some m.cls := findClass_of_methodNamed B.named
  have hlocks := B.notSynchronized
  have htb := vx_table (x := yL_page) B (hts _ (List.mem_cons_self))
  subst hsz
  generalize hAe : va_A [] s.heap.size = A at hF ⊢
  have hA : ∀ q : Nat, s.heap.size ≤ q → A q := fun q h => by rw [← hAe]; exact Or.inr h
  obtain ⟨H, hHe⟩ : ∃ H : Heap, H = s.heap := ⟨_, rfl⟩
  have hS : va_S A s.heap H [] := by rw [hHe]; exact va_S.rf
  have hP : va_P D vwCl ([(h_el, .inl (k_el, capE, .inr (.inr (.inr (.inr (egl AL)))))), (h_li, .inr (4, [h_li_0, .ref h_el, .int (nI PP.length)])), (h_A, .inr (5, [.ref h_li, .ref (pad AL 0)])), (h_mp, .inl (k_mp, 36, .inl mp)), (h_S, .inr (11, [.ref h_A, h_S_1, h_S_2, .ref h_mp, h_S_4, .int n, .int tk, h_S_7, h_S_8, h_S_9])), (h_M, .inr (13, [.ref h_S, h_M_1, h_M_2, h_M_3, h_M_4, h_M_5, h_M_6, h_M_7, h_M_8, h_M_9]))] ++ pgl kI AL PP) H := by rw [hHe]; exact hP
  rw [← hHe]
  have hl := lv_entry [.ref h_M, .int a2, .int a3, .int a4] (n := 5) (Nat.le_of_ble_eq_true rfl)
  rw [lg_entry_eq]
  generalize (lg_sl [.ref h_M, .int a2, .int a3, .int a4] ++ List.replicate (5 - (lg_sl [.ref h_M, .int a2, .int a3, .int a4]).length) Slot.unset).toArray = ls at hl ⊢
  have hl : lv_has ls 5 [(0, .ref h_M), (1, .int a2), (2, .int a3), (3, .int a4)] := hl
  have hM : F_L_page PP mp n tk a2 a3 a4 = (if (F_X10_page PP mp n tk a2 a3 a4).1 = 0 then (F_X10_page PP mp n tk a2 a3 a4).2 else (if (F_X10_page PP mp n tk a2 a3 a4).1 = 2 then (-1001) else (if (F_X10_page PP mp n tk a2 a3 a4).1 = 3 then (-1002) else (-1003)))) := rfl
  refine lv_aload_n hx hb dL_page_0 rfl (lv_at hl 0 rfl) ?_
  refine lv_iload_n hx hb dL_page_1 rfl (lv_at hl 1 rfl) ?_
  refine lv_iload_n hx hb dL_page_2 rfl (lv_at hl 2 rfl) ?_
  refine lv_iload_n hx hb dL_page_3 rfl (lv_at hl 3 rfl) ?_
  refine kzr_ (vx_runV (As := [.int a2, .int a3, .int a4]) (rest := []) ⟨hx, hb, hml, hown, hts⟩ (c_X10_page l hl0 D ad H.size h_el h_li h_A h_mp h_S h_M k_el k_mp (h_li_0) (h_S_1) (h_S_2) (h_S_4) (h_S_7) (h_S_8) (h_S_9) (h_M_1) (h_M_2) (h_M_3) (h_M_4) (h_M_5) (h_M_6) (h_M_7) (h_M_8) (h_M_9) kI AL PP capE mp n tk a2 a3 a4 hlen hpos hbig (by have z0 := hy0; have z1 := hy1; have q_len := hlen; have q_pos := hpos; have q_big := hbig; have q_n := nI_toInt (n := PP.length) (by omega); omega) (by have z0 := hy0; have z1 := hy1; have q_len := hlen; have q_pos := hpos; have q_big := hbig; have q_n := nI_toInt (n := PP.length) (by omega); omega)) (cwV 3 hts gL_page_X10_page rfl rfl rfl (by decide +kernel) ⟨Nat.le_of_ble_eq_true rfl, Nat.le_of_ble_eq_true rfl⟩) ⟨PR_.blind, va_recv hK hP (ci := 13) (q0 := 5) rfl rfl, PR_.pre hF hK (hP.part [0, 1, 2, 3, 4, 5] rfl) hS hA [0, 1, 2] rfl⟩ rfl rfl hl.1 rfl (lv_room (Nat.le_of_ble_eq_true rfl)) dL_page_4 ⟨(Nat.le_of_ble_eq_true rfl), (Nat.le_of_ble_eq_true rfl)⟩) hP hS hA (fun H locs c_2 hP hS => ?_) (fun E9 ce q9 H locs hE hP hS hce hvm hcl => ?_)
  · rw [if_pos c_2] at hM
    refine W.eq (g2 := F0 m 7 ls [.int (F_X10_page PP mp n tk a2 a3 a4).2]) rfl ?_
    refine W.widen (k := 3) (n := 18) (Nat.le_of_ble_eq_true rfl) (Nat.le_of_ble_eq_true rfl) ?_
    exact W.iret (v := (F_X10_page PP mp n tk a2 a3 a4).2) hx hb hr (QR_.mk hS (by rw [hM])) hS.2.2 dL_page_7
  · rcases hE with ⟨rfl, c_2⟩ | ⟨rfl, c_2⟩ | ⟨rfl, c_2⟩
    · rw [if_neg (show ¬ (F_X10_page PP mp n tk a2 a3 a4).1 = 0 from by rw [c_2]; decide)] at hM
      rw [if_pos c_2] at hM
      refine vx_catch (own := RL) (name := "java/lang/IndexOutOfBoundsException") (E := "java/lang/IndexOutOfBoundsException") hown [] (⟨0, 7, 8, 36⟩ : ExceptionTableEntry) [(⟨0, 7, 14, 38⟩ : ExceptionTableEntry), (⟨0, 7, 20, 43⟩ : ExceptionTableEntry)] (htb.trans rfl) (fun z hz => by cases hz) (by decide) (by decide) (hts (.classLink RL 36 "java/lang/IndexOutOfBoundsException") (List.mem_of_getElem? (i := 1) (by decide +kernel))) (fxk_ hF "java/lang/IndexOutOfBoundsException" "java/lang/IndexOutOfBoundsException") hce hvm hcl ?_
      refine W.eq (g2 := F0 m 8 ls [.ref q9]) rfl ?_
      refine lv_astore (lv' := [(4, .ref q9), (0, .ref h_M), (1, .int a2), (2, .int a3), (3, .int a4)]) hx hb dL_page_8 hl (by decide) rfl (fun ls hl => ?_)
      refine lv_sipush (v := (-1001)) hx hb dL_page_10 (by decide +kernel) ?_
      refine W.widen (k := 3) (n := 18) (Nat.le_of_ble_eq_true rfl) (Nat.le_of_ble_eq_true rfl) ?_
      exact W.iret (v := (-1001)) hx hb hr (QR_.mk hS (by rw [hM])) hS.2.2 dL_page_13
    · rw [if_neg (show ¬ (F_X10_page PP mp n tk a2 a3 a4).1 = 0 from by rw [c_2]; decide)] at hM
      rw [if_neg (show ¬ (F_X10_page PP mp n tk a2 a3 a4).1 = 2 from by rw [c_2]; decide)] at hM
      rw [if_pos c_2] at hM
      refine vx_catch (own := RL) (name := "java/lang/IllegalArgumentException") (E := "java/lang/IllegalArgumentException") hown [(⟨0, 7, 8, 36⟩ : ExceptionTableEntry)] (⟨0, 7, 14, 38⟩ : ExceptionTableEntry) [(⟨0, 7, 20, 43⟩ : ExceptionTableEntry)] (htb.trans rfl) (List.forall_mem_cons.mpr ⟨(Or.inr ⟨by decide, "java/lang/IndexOutOfBoundsException", (hts (.classLink RL 36 "java/lang/IndexOutOfBoundsException") (List.mem_of_getElem? (i := 1) (by decide +kernel))), fxd_ hF "java/lang/IllegalArgumentException" "java/lang/IndexOutOfBoundsException"⟩), (fun z hz => absurd hz List.not_mem_nil)⟩) (by decide) (by decide) (fxl_ hF (38, "java/lang/IllegalArgumentException")) (fxk_ hF "java/lang/IllegalArgumentException" "java/lang/IllegalArgumentException") hce hvm hcl ?_
      refine W.eq (g2 := F0 m 14 ls [.ref q9]) rfl ?_
      refine lv_astore (lv' := [(4, .ref q9), (0, .ref h_M), (1, .int a2), (2, .int a3), (3, .int a4)]) hx hb dL_page_14 hl (by decide) rfl (fun ls hl => ?_)
      refine lv_sipush (v := (-1002)) hx hb dL_page_16 (by decide +kernel) ?_
      refine W.widen (k := 3) (n := 18) (Nat.le_of_ble_eq_true rfl) (Nat.le_of_ble_eq_true rfl) ?_
      exact W.iret (v := (-1002)) hx hb hr (QR_.mk hS (by rw [hM])) hS.2.2 dL_page_19
    · rw [if_neg (show ¬ (F_X10_page PP mp n tk a2 a3 a4).1 = 0 from by rw [c_2]; decide)] at hM
      rw [if_neg (show ¬ (F_X10_page PP mp n tk a2 a3 a4).1 = 2 from by rw [c_2]; decide)] at hM
      rw [if_neg (show ¬ (F_X10_page PP mp n tk a2 a3 a4).1 = 3 from by rw [c_2]; decide)] at hM
      refine vx_catch (own := RL) (name := "java/util/NoSuchElementException") (E := "java/util/NoSuchElementException") hown [(⟨0, 7, 8, 36⟩ : ExceptionTableEntry), (⟨0, 7, 14, 38⟩ : ExceptionTableEntry)] (⟨0, 7, 20, 43⟩ : ExceptionTableEntry) [] (htb.trans rfl) (List.forall_mem_cons.mpr ⟨(Or.inr ⟨by decide, "java/lang/IndexOutOfBoundsException", (hts (.classLink RL 36 "java/lang/IndexOutOfBoundsException") (List.mem_of_getElem? (i := 1) (by decide +kernel))), fxd_ hF "java/util/NoSuchElementException" "java/lang/IndexOutOfBoundsException"⟩), (List.forall_mem_cons.mpr ⟨(Or.inr ⟨by decide, "java/lang/IllegalArgumentException", (fxl_ hF (38, "java/lang/IllegalArgumentException")), fxd_ hF "java/util/NoSuchElementException" "java/lang/IllegalArgumentException"⟩), (fun z hz => absurd hz List.not_mem_nil)⟩)⟩) (by decide) (by decide) (fxl_ hF (43, "java/util/NoSuchElementException")) (fxk_ hF "java/util/NoSuchElementException" "java/util/NoSuchElementException") hce hvm hcl ?_
      refine W.eq (g2 := F0 m 20 ls [.ref q9]) rfl ?_
      refine lv_astore (lv' := [(4, .ref q9), (0, .ref h_M), (1, .int a2), (2, .int a3), (3, .int a4)]) hx hb dL_page_20 hl (by decide) rfl (fun ls hl => ?_)
      refine lv_sipush (v := (-1003)) hx hb dL_page_22 (by decide +kernel) ?_
      refine W.widen (k := 3) (n := 18) (Nat.le_of_ble_eq_true rfl) (Nat.le_of_ble_eq_true rfl) ?_
      exact W.iret (v := (-1003)) hx hb hr (QR_.mk hS (by rw [hM])) hS.2.2 dL_page_25
def F_L_told (PP : List PG) (mp : Nat → Int32) (n : Int32) (a2 : Int32) (a3 : Int32) (a4 : Int32) : Int32 := (if (F_X10_told PP mp n a2 a3 a4).1 = 0 then (F_X10_told PP mp n a2 a3 a4).2 else (if (F_X10_told PP mp n a2 a3 a4).1 = 2 then (-1001) else (-1002)))
set_option maxHeartbeats 4000000 in
set_option maxRecDepth 100000 in
theorem c_L_told (l : Launch) (hl0 : l.stackTraces = false) (D : va_G) (ad : Nat → Nat) (sz : Nat) (h_el : Nat) (h_li : Nat) (h_A : Nat) (h_mp : Nat) (h_S : Nat) (h_M : Nat) (k_el : ClassId) (k_mp : ClassId) (h_li_0 : Value) (h_S_1 : Value) (h_S_2 : Value) (h_S_4 : Value) (h_S_6 : Value) (h_S_7 : Value) (h_S_8 : Value) (h_S_9 : Value) (h_M_1 : Value) (h_M_2 : Value) (h_M_3 : Value) (h_M_4 : Value) (h_M_5 : Value) (h_M_6 : Value) (h_M_7 : Value) (h_M_8 : Value) (h_M_9 : Value) (kI : ClassId) (AL : List (Nat × Nat)) (PP : List PG) (capE : Nat) (mp : Nat → Int32) (n : Int32) (a2 : Int32) (a3 : Int32) (a4 : Int32) (hlen : AL.length = PP.length) (hpos : 0 < PP.length) (hbig : PP.length ≤ 2000000) (hy0 : n.toInt ≤ 6) (hy1 : PP.length ≤ capE) : Met l yL_told wsL_told ({ frames := 8, cells := 4, slots := 24, locals := 149 }) (PR_ D ad ([(h_el, .inl (k_el, capE, .inr (.inr (.inr (.inr (egl AL)))))), (h_li, .inr (4, [h_li_0, .ref h_el, .int (nI PP.length)])), (h_A, .inr (5, [.ref h_li, .ref (pad AL 0)])), (h_mp, .inl (k_mp, 36, .inl mp)), (h_S, .inr (11, [.ref h_A, h_S_1, h_S_2, .ref h_mp, h_S_4, .int n, h_S_6, h_S_7, h_S_8, h_S_9])), (h_M, .inr (13, [.ref h_S, h_M_1, h_M_2, h_M_3, h_M_4, h_M_5, h_M_6, h_M_7, h_M_8, h_M_9]))] ++ pgl kI AL PP) [(k_el, .object "java/lang/Object"), (k_mp, .int), (kI, .int)] sz [.ref h_M, .int a2, .int a3, .int a4]) (QR_ (.int (F_L_told PP mp n a2 a3 a4)) (va_A [] sz)) 4 24 (va_A [] sz) := by
  refine va_MetW (cc := cL_told) (maxL := 5) (ret := (some .int)) (by decide) rfl ?_
  intro p e s m args below meth c s₁ B hml hv
  obtain ⟨rfl, hsz, hP, hK, hF⟩ := hv
  have hx := B.exec
  have hb := B.bytes
  have hr := B.returns
  have hts := atoms_spec (ws := wsL_told) B.pre
  have hown : s.vm.findClass RL = some m.cls := findClass_of_methodNamed B.named
  have hlocks := B.notSynchronized
  have htb := vx_table (x := yL_told) B (hts _ (List.mem_cons_self))
  subst hsz
  generalize hAe : va_A [] s.heap.size = A at hF ⊢
  have hA : ∀ q : Nat, s.heap.size ≤ q → A q := fun q h => by rw [← hAe]; exact Or.inr h
  obtain ⟨H, hHe⟩ : ∃ H : Heap, H = s.heap := ⟨_, rfl⟩
  have hS : va_S A s.heap H [] := by rw [hHe]; exact va_S.rf
  have hP : va_P D vwCl ([(h_el, .inl (k_el, capE, .inr (.inr (.inr (.inr (egl AL)))))), (h_li, .inr (4, [h_li_0, .ref h_el, .int (nI PP.length)])), (h_A, .inr (5, [.ref h_li, .ref (pad AL 0)])), (h_mp, .inl (k_mp, 36, .inl mp)), (h_S, .inr (11, [.ref h_A, h_S_1, h_S_2, .ref h_mp, h_S_4, .int n, h_S_6, h_S_7, h_S_8, h_S_9])), (h_M, .inr (13, [.ref h_S, h_M_1, h_M_2, h_M_3, h_M_4, h_M_5, h_M_6, h_M_7, h_M_8, h_M_9]))] ++ pgl kI AL PP) H := by rw [hHe]; exact hP
  rw [← hHe]
  have hl := lv_entry [.ref h_M, .int a2, .int a3, .int a4] (n := 5) (Nat.le_of_ble_eq_true rfl)
  rw [lg_entry_eq]
  generalize (lg_sl [.ref h_M, .int a2, .int a3, .int a4] ++ List.replicate (5 - (lg_sl [.ref h_M, .int a2, .int a3, .int a4]).length) Slot.unset).toArray = ls at hl ⊢
  have hl : lv_has ls 5 [(0, .ref h_M), (1, .int a2), (2, .int a3), (3, .int a4)] := hl
  have hM : F_L_told PP mp n a2 a3 a4 = (if (F_X10_told PP mp n a2 a3 a4).1 = 0 then (F_X10_told PP mp n a2 a3 a4).2 else (if (F_X10_told PP mp n a2 a3 a4).1 = 2 then (-1001) else (-1002))) := rfl
  refine lv_aload_n hx hb dL_told_0 rfl (lv_at hl 0 rfl) ?_
  refine lv_iload_n hx hb dL_told_1 rfl (lv_at hl 1 rfl) ?_
  refine lv_iload_n hx hb dL_told_2 rfl (lv_at hl 2 rfl) ?_
  refine lv_iload_n hx hb dL_told_3 rfl (lv_at hl 3 rfl) ?_
  refine kzr_ (vx_runV (As := [.int a2, .int a3, .int a4]) (rest := []) ⟨hx, hb, hml, hown, hts⟩ (c_X10_told l hl0 D ad H.size h_el h_li h_A h_mp h_S h_M k_el k_mp (h_li_0) (h_S_1) (h_S_2) (h_S_4) (h_S_6) (h_S_7) (h_S_8) (h_S_9) (h_M_1) (h_M_2) (h_M_3) (h_M_4) (h_M_5) (h_M_6) (h_M_7) (h_M_8) (h_M_9) kI AL PP capE mp n a2 a3 a4 hlen hpos hbig (by have z0 := hy0; have z1 := hy1; have q_len := hlen; have q_pos := hpos; have q_big := hbig; have q_n := nI_toInt (n := PP.length) (by omega); omega) (by have z0 := hy0; have z1 := hy1; have q_len := hlen; have q_pos := hpos; have q_big := hbig; have q_n := nI_toInt (n := PP.length) (by omega); omega)) (cwV 3 hts gL_told_X10_told rfl rfl rfl (by decide +kernel) ⟨Nat.le_of_ble_eq_true rfl, Nat.le_of_ble_eq_true rfl⟩) ⟨PR_.blind, va_recv hK hP (ci := 13) (q0 := 5) rfl rfl, PR_.pre hF hK (hP.part [0, 1, 2, 3, 4, 5] rfl) hS hA [0, 1, 2] rfl⟩ rfl rfl hl.1 rfl (lv_room (Nat.le_of_ble_eq_true rfl)) dL_told_4 ⟨(Nat.le_of_ble_eq_true rfl), (Nat.le_of_ble_eq_true rfl)⟩) hP hS hA (fun H locs c_2 hP hS => ?_) (fun E9 ce q9 H locs hE hP hS hce hvm hcl => ?_)
  · rw [if_pos c_2] at hM
    refine W.eq (g2 := F0 m 7 ls [.int (F_X10_told PP mp n a2 a3 a4).2]) rfl ?_
    refine W.widen (k := 4) (n := 24) (Nat.le_of_ble_eq_true rfl) (Nat.le_of_ble_eq_true rfl) ?_
    exact W.iret (v := (F_X10_told PP mp n a2 a3 a4).2) hx hb hr (QR_.mk hS (by rw [hM])) hS.2.2 dL_told_7
  · rcases hE with ⟨rfl, c_2⟩ | ⟨rfl, c_2⟩
    · rw [if_neg (show ¬ (F_X10_told PP mp n a2 a3 a4).1 = 0 from by rw [c_2]; decide)] at hM
      rw [if_pos c_2] at hM
      refine vx_catch (own := RL) (name := "java/lang/IndexOutOfBoundsException") (E := "java/lang/IndexOutOfBoundsException") hown [] (⟨0, 7, 8, 36⟩ : ExceptionTableEntry) [(⟨0, 7, 14, 43⟩ : ExceptionTableEntry)] (htb.trans rfl) (fun z hz => by cases hz) (by decide) (by decide) (hts (.classLink RL 36 "java/lang/IndexOutOfBoundsException") (List.mem_of_getElem? (i := 1) (by decide +kernel))) (fxk_ hF "java/lang/IndexOutOfBoundsException" "java/lang/IndexOutOfBoundsException") hce hvm hcl ?_
      refine W.eq (g2 := F0 m 8 ls [.ref q9]) rfl ?_
      refine lv_astore (lv' := [(4, .ref q9), (0, .ref h_M), (1, .int a2), (2, .int a3), (3, .int a4)]) hx hb dL_told_8 hl (by decide) rfl (fun ls hl => ?_)
      refine lv_sipush (v := (-1001)) hx hb dL_told_10 (by decide +kernel) ?_
      refine W.widen (k := 4) (n := 24) (Nat.le_of_ble_eq_true rfl) (Nat.le_of_ble_eq_true rfl) ?_
      exact W.iret (v := (-1001)) hx hb hr (QR_.mk hS (by rw [hM])) hS.2.2 dL_told_13
    · rw [if_neg (show ¬ (F_X10_told PP mp n a2 a3 a4).1 = 0 from by rw [c_2]; decide)] at hM
      rw [if_neg (show ¬ (F_X10_told PP mp n a2 a3 a4).1 = 2 from by rw [c_2]; decide)] at hM
      refine vx_catch (own := RL) (name := "java/util/NoSuchElementException") (E := "java/util/NoSuchElementException") hown [(⟨0, 7, 8, 36⟩ : ExceptionTableEntry)] (⟨0, 7, 14, 43⟩ : ExceptionTableEntry) [] (htb.trans rfl) (List.forall_mem_cons.mpr ⟨(Or.inr ⟨by decide, "java/lang/IndexOutOfBoundsException", (hts (.classLink RL 36 "java/lang/IndexOutOfBoundsException") (List.mem_of_getElem? (i := 1) (by decide +kernel))), fxd_ hF "java/util/NoSuchElementException" "java/lang/IndexOutOfBoundsException"⟩), (fun z hz => absurd hz List.not_mem_nil)⟩) (by decide) (by decide) (fxl_ hF (43, "java/util/NoSuchElementException")) (fxk_ hF "java/util/NoSuchElementException" "java/util/NoSuchElementException") hce hvm hcl ?_
      refine W.eq (g2 := F0 m 14 ls [.ref q9]) rfl ?_
      refine lv_astore (lv' := [(4, .ref q9), (0, .ref h_M), (1, .int a2), (2, .int a3), (3, .int a4)]) hx hb dL_told_14 hl (by decide) rfl (fun ls hl => ?_)
      refine lv_sipush (v := (-1002)) hx hb dL_told_16 (by decide +kernel) ?_
      refine W.widen (k := 4) (n := 24) (Nat.le_of_ble_eq_true rfl) (Nat.le_of_ble_eq_true rfl) ?_
      exact W.iret (v := (-1002)) hx hb hr (QR_.mk hS (by rw [hM])) hS.2.2 dL_told_19
def F_L_letter (PP : List PG) (pk : Nat → Int32) (cn : Int32) (a2 : Int32) (a3 : Int32) : Int32 := (if (F_X10_letter PP pk cn a2 a3).1 = 0 then (F_X10_letter PP pk cn a2 a3).2 else (if (F_X10_letter PP pk cn a2 a3).1 = 3 then (-1001) else (-1002)))
set_option maxHeartbeats 4000000 in
set_option maxRecDepth 100000 in
theorem c_L_letter (l : Launch) (hl0 : l.stackTraces = false) (D : va_G) (ad : Nat → Nat) (sz : Nat) (h_el : Nat) (h_li : Nat) (h_A : Nat) (h_pk : Nat) (h_L : Nat) (h_S : Nat) (h_M : Nat) (k_el : ClassId) (k_pk : ClassId) (h_li_0 : Value) (h_L_2 : Value) (h_S_1 : Value) (h_S_2 : Value) (h_S_3 : Value) (h_S_5 : Value) (h_S_6 : Value) (h_S_7 : Value) (h_S_8 : Value) (h_S_9 : Value) (h_M_1 : Value) (h_M_2 : Value) (h_M_3 : Value) (h_M_4 : Value) (h_M_5 : Value) (h_M_6 : Value) (h_M_7 : Value) (h_M_8 : Value) (h_M_9 : Value) (kI : ClassId) (AL : List (Nat × Nat)) (PP : List PG) (capE : Nat) (cap : Nat) (pk : Nat → Int32) (cn : Int32) (a2 : Int32) (a3 : Int32) (hlen : AL.length = PP.length) (hpos : 0 < PP.length) (hbig : PP.length ≤ 2000000) (hy1 : PP.length ≤ capE) (hy2 : 0 ≤ cn.toInt) (hy3 : cn.toInt ≤ cap) (hy4 : cn.toInt ≤ 1000000) (hy5 : 64 ≤ cap) (hy6 : cap ≤ 2000000) : Met l yL_letter wsL_letter ({ frames := 7, cells := 1, slots := 6, locals := 140 }) (PR_ D ad ([(h_el, .inl (k_el, capE, .inr (.inr (.inr (.inr (egl AL)))))), (h_li, .inr (4, [h_li_0, .ref h_el, .int (nI PP.length)])), (h_A, .inr (5, [.ref h_li, .ref (pad AL 0)])), (h_pk, .inl (k_pk, cap, .inl pk)), (h_L, .inr (8, [.ref h_pk, .int cn, h_L_2])), (h_S, .inr (11, [.ref h_A, h_S_1, h_S_2, h_S_3, .ref h_L, h_S_5, h_S_6, h_S_7, h_S_8, h_S_9])), (h_M, .inr (13, [.ref h_S, h_M_1, h_M_2, h_M_3, h_M_4, h_M_5, h_M_6, h_M_7, h_M_8, h_M_9]))] ++ pgl kI AL PP) [(k_el, .object "java/lang/Object"), (k_pk, .int), (kI, .int)] sz [.ref h_M, .int a2, .int a3]) (QR_ (.int (F_L_letter PP pk cn a2 a3)) (va_A [] sz)) 1 6 (va_A [] sz) := by
  refine va_MetW (cc := cL_letter) (maxL := 4) (ret := (some .int)) (by decide) rfl ?_
  intro p e s m args below meth c s₁ B hml hv
  obtain ⟨rfl, hsz, hP, hK, hF⟩ := hv
  have hx := B.exec
  have hb := B.bytes
  have hr := B.returns
  have hts := atoms_spec (ws := wsL_letter) B.pre
  have hown : s.vm.findClass RL = some m.cls := findClass_of_methodNamed B.named
  have hlocks := B.notSynchronized
  have htb := vx_table (x := yL_letter) B (hts _ (List.mem_cons_self))
  subst hsz
  generalize hAe : va_A [] s.heap.size = A at hF ⊢
  have hA : ∀ q : Nat, s.heap.size ≤ q → A q := fun q h => by rw [← hAe]; exact Or.inr h
  obtain ⟨H, hHe⟩ : ∃ H : Heap, H = s.heap := ⟨_, rfl⟩
  have hS : va_S A s.heap H [] := by rw [hHe]; exact va_S.rf
  have hP : va_P D vwCl ([(h_el, .inl (k_el, capE, .inr (.inr (.inr (.inr (egl AL)))))), (h_li, .inr (4, [h_li_0, .ref h_el, .int (nI PP.length)])), (h_A, .inr (5, [.ref h_li, .ref (pad AL 0)])), (h_pk, .inl (k_pk, cap, .inl pk)), (h_L, .inr (8, [.ref h_pk, .int cn, h_L_2])), (h_S, .inr (11, [.ref h_A, h_S_1, h_S_2, h_S_3, .ref h_L, h_S_5, h_S_6, h_S_7, h_S_8, h_S_9])), (h_M, .inr (13, [.ref h_S, h_M_1, h_M_2, h_M_3, h_M_4, h_M_5, h_M_6, h_M_7, h_M_8, h_M_9]))] ++ pgl kI AL PP) H := by rw [hHe]; exact hP
  rw [← hHe]
  have hl := lv_entry [.ref h_M, .int a2, .int a3] (n := 4) (Nat.le_of_ble_eq_true rfl)
  rw [lg_entry_eq]
  generalize (lg_sl [.ref h_M, .int a2, .int a3] ++ List.replicate (4 - (lg_sl [.ref h_M, .int a2, .int a3]).length) Slot.unset).toArray = ls at hl ⊢
  have hl : lv_has ls 4 [(0, .ref h_M), (1, .int a2), (2, .int a3)] := hl
  have hM : F_L_letter PP pk cn a2 a3 = (if (F_X10_letter PP pk cn a2 a3).1 = 0 then (F_X10_letter PP pk cn a2 a3).2 else (if (F_X10_letter PP pk cn a2 a3).1 = 3 then (-1001) else (-1002))) := rfl
  refine lv_aload_n hx hb dL_letter_0 rfl (lv_at hl 0 rfl) ?_
  refine lv_iload_n hx hb dL_letter_1 rfl (lv_at hl 1 rfl) ?_
  refine lv_iload_n hx hb dL_letter_2 rfl (lv_at hl 2 rfl) ?_
  refine kzr_ (vx_runV (As := [.int a2, .int a3]) (rest := []) ⟨hx, hb, hml, hown, hts⟩ (c_X10_letter l hl0 D ad H.size h_el h_li h_A h_pk h_L h_S h_M k_el k_pk (h_li_0) (h_L_2) (h_S_1) (h_S_2) (h_S_3) (h_S_5) (h_S_6) (h_S_7) (h_S_8) (h_S_9) (h_M_1) (h_M_2) (h_M_3) (h_M_4) (h_M_5) (h_M_6) (h_M_7) (h_M_8) (h_M_9) kI AL PP capE cap pk cn a2 a3 hlen hpos hbig (by have z0 := hy1; have z1 := hy2; have z2 := hy3; have z3 := hy4; have z4 := hy5; have z5 := hy6; have q_len := hlen; have q_pos := hpos; have q_big := hbig; have q_n := nI_toInt (n := PP.length) (by omega); omega) (by have z0 := hy1; have z1 := hy2; have z2 := hy3; have z3 := hy4; have z4 := hy5; have z5 := hy6; have q_len := hlen; have q_pos := hpos; have q_big := hbig; have q_n := nI_toInt (n := PP.length) (by omega); omega) (by have z0 := hy1; have z1 := hy2; have z2 := hy3; have z3 := hy4; have z4 := hy5; have z5 := hy6; have q_len := hlen; have q_pos := hpos; have q_big := hbig; have q_n := nI_toInt (n := PP.length) (by omega); omega) (by have z0 := hy1; have z1 := hy2; have z2 := hy3; have z3 := hy4; have z4 := hy5; have z5 := hy6; have q_len := hlen; have q_pos := hpos; have q_big := hbig; have q_n := nI_toInt (n := PP.length) (by omega); omega) (by have z0 := hy1; have z1 := hy2; have z2 := hy3; have z3 := hy4; have z4 := hy5; have z5 := hy6; have q_len := hlen; have q_pos := hpos; have q_big := hbig; have q_n := nI_toInt (n := PP.length) (by omega); omega) (by have z0 := hy1; have z1 := hy2; have z2 := hy3; have z3 := hy4; have z4 := hy5; have z5 := hy6; have q_len := hlen; have q_pos := hpos; have q_big := hbig; have q_n := nI_toInt (n := PP.length) (by omega); omega)) (cwV 2 hts gL_letter_X10_letter rfl rfl rfl (by decide +kernel) ⟨Nat.le_of_ble_eq_true rfl, Nat.le_of_ble_eq_true rfl⟩) ⟨PR_.blind, va_recv hK hP (ci := 13) (q0 := 6) rfl rfl, PR_.pre hF hK (hP.part [0, 1, 2, 3, 4, 5, 6] rfl) hS hA [0, 1, 2] rfl⟩ rfl rfl hl.1 rfl (lv_room (Nat.le_of_ble_eq_true rfl)) dL_letter_3 ⟨(Nat.le_of_ble_eq_true rfl), (Nat.le_of_ble_eq_true rfl)⟩) hP hS hA (fun H locs c_2 hP hS => ?_) (fun E9 ce q9 H locs hE hP hS hce hvm hcl => ?_)
  · rw [if_pos c_2] at hM
    refine W.eq (g2 := F0 m 6 ls [.int (F_X10_letter PP pk cn a2 a3).2]) rfl ?_
    refine W.widen (k := 1) (n := 6) (Nat.le_of_ble_eq_true rfl) (Nat.le_of_ble_eq_true rfl) ?_
    exact W.iret (v := (F_X10_letter PP pk cn a2 a3).2) hx hb hr (QR_.mk hS (by rw [hM])) hS.2.2 dL_letter_6
  · rcases hE with ⟨rfl, c_2⟩ | ⟨rfl, c_2⟩
    · rw [if_neg (show ¬ (F_X10_letter PP pk cn a2 a3).1 = 0 from by rw [c_2]; decide)] at hM
      rw [if_pos c_2] at hM
      refine vx_catch (own := RL) (name := "java/lang/IllegalArgumentException") (E := "java/lang/IllegalArgumentException") hown [] (⟨0, 6, 7, 38⟩ : ExceptionTableEntry) [(⟨0, 6, 12, 43⟩ : ExceptionTableEntry)] (htb.trans rfl) (fun z hz => by cases hz) (by decide) (by decide) (hts (.classLink RL 38 "java/lang/IllegalArgumentException") (List.mem_of_getElem? (i := 1) (by decide +kernel))) (fxk_ hF "java/lang/IllegalArgumentException" "java/lang/IllegalArgumentException") hce hvm hcl ?_
      refine W.eq (g2 := F0 m 7 ls [.ref q9]) rfl ?_
      refine lv_astore_n (lv' := [(3, .ref q9), (0, .ref h_M), (1, .int a2), (2, .int a3)]) hx hb dL_letter_7 rfl hl (by decide) rfl (fun ls hl => ?_)
      refine lv_sipush (v := (-1001)) hx hb dL_letter_8 (by decide +kernel) ?_
      refine W.widen (k := 1) (n := 6) (Nat.le_of_ble_eq_true rfl) (Nat.le_of_ble_eq_true rfl) ?_
      exact W.iret (v := (-1001)) hx hb hr (QR_.mk hS (by rw [hM])) hS.2.2 dL_letter_11
    · rw [if_neg (show ¬ (F_X10_letter PP pk cn a2 a3).1 = 0 from by rw [c_2]; decide)] at hM
      rw [if_neg (show ¬ (F_X10_letter PP pk cn a2 a3).1 = 3 from by rw [c_2]; decide)] at hM
      refine vx_catch (own := RL) (name := "java/util/NoSuchElementException") (E := "java/util/NoSuchElementException") hown [(⟨0, 6, 7, 38⟩ : ExceptionTableEntry)] (⟨0, 6, 12, 43⟩ : ExceptionTableEntry) [] (htb.trans rfl) (List.forall_mem_cons.mpr ⟨(Or.inr ⟨by decide, "java/lang/IllegalArgumentException", (hts (.classLink RL 38 "java/lang/IllegalArgumentException") (List.mem_of_getElem? (i := 1) (by decide +kernel))), fxd_ hF "java/util/NoSuchElementException" "java/lang/IllegalArgumentException"⟩), (fun z hz => absurd hz List.not_mem_nil)⟩) (by decide) (by decide) (fxl_ hF (43, "java/util/NoSuchElementException")) (fxk_ hF "java/util/NoSuchElementException" "java/util/NoSuchElementException") hce hvm hcl ?_
      refine W.eq (g2 := F0 m 12 ls [.ref q9]) rfl ?_
      refine lv_astore_n (lv' := [(3, .ref q9), (0, .ref h_M), (1, .int a2), (2, .int a3)]) hx hb dL_letter_12 rfl hl (by decide) rfl (fun ls hl => ?_)
      refine lv_sipush (v := (-1002)) hx hb dL_letter_13 (by decide +kernel) ?_
      refine W.widen (k := 1) (n := 6) (Nat.le_of_ble_eq_true rfl) (Nat.le_of_ble_eq_true rfl) ?_
      exact W.iret (v := (-1002)) hx hb hr (QR_.mk hS (by rw [hM])) hS.2.2 dL_letter_16
def F_L_surveyorOf (PP : List PG) (ds : Nat → Int32) (cs : Nat → Int32) (mp : Nat → Int32) (pk : Nat → Int32) (cn : Int32) (n : Int32) (a2 : Int32) (a3 : Int32) : Int32 := (if (F_X10_surveyorOf PP ds cs mp pk cn n a2 a3).1 = 0 then (F_X10_surveyorOf PP ds cs mp pk cn n a2 a3).2 else (if (F_X10_surveyorOf PP ds cs mp pk cn n a2 a3).1 = 2 then (-1001) else (-1002)))
set_option maxHeartbeats 4000000 in
set_option maxRecDepth 100000 in
theorem c_L_surveyorOf (l : Launch) (hl0 : l.stackTraces = false) (D : va_G) (ad : Nat → Nat) (sz : Nat) (h_el : Nat) (h_li : Nat) (h_A : Nat) (h_ds : Nat) (h_cs : Nat) (h_mp : Nat) (h_pk : Nat) (h_L : Nat) (h_S : Nat) (h_M : Nat) (k_el : ClassId) (k_ds : ClassId) (k_cs : ClassId) (k_mp : ClassId) (k_pk : ClassId) (h_li_0 : Value) (h_L_2 : Value) (h_S_6 : Value) (h_S_7 : Value) (h_S_8 : Value) (h_S_9 : Value) (h_M_1 : Value) (h_M_2 : Value) (h_M_3 : Value) (h_M_4 : Value) (h_M_5 : Value) (h_M_6 : Value) (h_M_7 : Value) (h_M_8 : Value) (h_M_9 : Value) (kI : ClassId) (AL : List (Nat × Nat)) (PP : List PG) (capE : Nat) (ds : Nat → Int32) (cs : Nat → Int32) (mp : Nat → Int32) (cap : Nat) (pk : Nat → Int32) (cn : Int32) (n : Int32) (a2 : Int32) (a3 : Int32) (hlen : AL.length = PP.length) (hpos : 0 < PP.length) (hbig : PP.length ≤ 2000000) (hy0 : n.toInt ≤ 6) (hy1 : PP.length ≤ capE) (hy2 : 0 ≤ cn.toInt) (hy3 : cn.toInt ≤ cap) (hy4 : cn.toInt ≤ 1000000) (hy5 : 64 ≤ cap) (hy6 : cap ≤ 2000000) : Met l yL_surveyorOf wsL_surveyorOf ({ frames := 8, cells := 2, slots := 12, locals := 166 }) (PR_ D ad ([(h_el, .inl (k_el, capE, .inr (.inr (.inr (.inr (egl AL)))))), (h_li, .inr (4, [h_li_0, .ref h_el, .int (nI PP.length)])), (h_A, .inr (5, [.ref h_li, .ref (pad AL 0)])), (h_ds, .inl (k_ds, 6, .inl ds)), (h_cs, .inl (k_cs, 36, .inl cs)), (h_mp, .inl (k_mp, 36, .inl mp)), (h_pk, .inl (k_pk, cap, .inl pk)), (h_L, .inr (8, [.ref h_pk, .int cn, h_L_2])), (h_S, .inr (11, [.ref h_A, .ref h_ds, .ref h_cs, .ref h_mp, .ref h_L, .int n, h_S_6, h_S_7, h_S_8, h_S_9])), (h_M, .inr (13, [.ref h_S, h_M_1, h_M_2, h_M_3, h_M_4, h_M_5, h_M_6, h_M_7, h_M_8, h_M_9]))] ++ pgl kI AL PP) [(k_el, .object "java/lang/Object"), (k_ds, .int), (k_cs, .int), (k_mp, .int), (k_pk, .int), (kI, .int)] sz [.ref h_M, .int a2, .int a3]) (QR_ (.int (F_L_surveyorOf PP ds cs mp pk cn n a2 a3)) (va_A [] sz)) 2 12 (va_A [] sz) := by
  refine va_MetW (cc := cL_surveyorOf) (maxL := 4) (ret := (some .int)) (by decide) rfl ?_
  intro p e s m args below meth c s₁ B hml hv
  obtain ⟨rfl, hsz, hP, hK, hF⟩ := hv
  have hx := B.exec
  have hb := B.bytes
  have hr := B.returns
  have hts := atoms_spec (ws := wsL_surveyorOf) B.pre
  have hown : s.vm.findClass RL = some m.cls := findClass_of_methodNamed B.named
  have hlocks := B.notSynchronized
  have htb := vx_table (x := yL_surveyorOf) B (hts _ (List.mem_cons_self))
  subst hsz
  generalize hAe : va_A [] s.heap.size = A at hF ⊢
  have hA : ∀ q : Nat, s.heap.size ≤ q → A q := fun q h => by rw [← hAe]; exact Or.inr h
  obtain ⟨H, hHe⟩ : ∃ H : Heap, H = s.heap := ⟨_, rfl⟩
  have hS : va_S A s.heap H [] := by rw [hHe]; exact va_S.rf
  have hP : va_P D vwCl ([(h_el, .inl (k_el, capE, .inr (.inr (.inr (.inr (egl AL)))))), (h_li, .inr (4, [h_li_0, .ref h_el, .int (nI PP.length)])), (h_A, .inr (5, [.ref h_li, .ref (pad AL 0)])), (h_ds, .inl (k_ds, 6, .inl ds)), (h_cs, .inl (k_cs, 36, .inl cs)), (h_mp, .inl (k_mp, 36, .inl mp)), (h_pk, .inl (k_pk, cap, .inl pk)), (h_L, .inr (8, [.ref h_pk, .int cn, h_L_2])), (h_S, .inr (11, [.ref h_A, .ref h_ds, .ref h_cs, .ref h_mp, .ref h_L, .int n, h_S_6, h_S_7, h_S_8, h_S_9])), (h_M, .inr (13, [.ref h_S, h_M_1, h_M_2, h_M_3, h_M_4, h_M_5, h_M_6, h_M_7, h_M_8, h_M_9]))] ++ pgl kI AL PP) H := by rw [hHe]; exact hP
  rw [← hHe]
  have hl := lv_entry [.ref h_M, .int a2, .int a3] (n := 4) (Nat.le_of_ble_eq_true rfl)
  rw [lg_entry_eq]
  generalize (lg_sl [.ref h_M, .int a2, .int a3] ++ List.replicate (4 - (lg_sl [.ref h_M, .int a2, .int a3]).length) Slot.unset).toArray = ls at hl ⊢
  have hl : lv_has ls 4 [(0, .ref h_M), (1, .int a2), (2, .int a3)] := hl
  have hM : F_L_surveyorOf PP ds cs mp pk cn n a2 a3 = (if (F_X10_surveyorOf PP ds cs mp pk cn n a2 a3).1 = 0 then (F_X10_surveyorOf PP ds cs mp pk cn n a2 a3).2 else (if (F_X10_surveyorOf PP ds cs mp pk cn n a2 a3).1 = 2 then (-1001) else (-1002))) := rfl
  refine lv_aload_n hx hb dL_surveyorOf_0 rfl (lv_at hl 0 rfl) ?_
  refine lv_iload_n hx hb dL_surveyorOf_1 rfl (lv_at hl 1 rfl) ?_
  refine lv_iload_n hx hb dL_surveyorOf_2 rfl (lv_at hl 2 rfl) ?_
  refine kzr_ (vx_runV (As := [.int a2, .int a3]) (rest := []) ⟨hx, hb, hml, hown, hts⟩ (c_X10_surveyorOf l hl0 D ad H.size h_el h_li h_A h_ds h_cs h_mp h_pk h_L h_S h_M k_el k_ds k_cs k_mp k_pk (h_li_0) (h_L_2) (h_S_6) (h_S_7) (h_S_8) (h_S_9) (h_M_1) (h_M_2) (h_M_3) (h_M_4) (h_M_5) (h_M_6) (h_M_7) (h_M_8) (h_M_9) kI AL PP capE ds cs mp cap pk cn n a2 a3 hlen hpos hbig (by have z0 := hy0; have z1 := hy1; have z2 := hy2; have z3 := hy3; have z4 := hy4; have z5 := hy5; have z6 := hy6; have q_len := hlen; have q_pos := hpos; have q_big := hbig; have q_n := nI_toInt (n := PP.length) (by omega); omega) (by have z0 := hy0; have z1 := hy1; have z2 := hy2; have z3 := hy3; have z4 := hy4; have z5 := hy5; have z6 := hy6; have q_len := hlen; have q_pos := hpos; have q_big := hbig; have q_n := nI_toInt (n := PP.length) (by omega); omega) (by have z0 := hy0; have z1 := hy1; have z2 := hy2; have z3 := hy3; have z4 := hy4; have z5 := hy5; have z6 := hy6; have q_len := hlen; have q_pos := hpos; have q_big := hbig; have q_n := nI_toInt (n := PP.length) (by omega); omega) (by have z0 := hy0; have z1 := hy1; have z2 := hy2; have z3 := hy3; have z4 := hy4; have z5 := hy5; have z6 := hy6; have q_len := hlen; have q_pos := hpos; have q_big := hbig; have q_n := nI_toInt (n := PP.length) (by omega); omega) (by have z0 := hy0; have z1 := hy1; have z2 := hy2; have z3 := hy3; have z4 := hy4; have z5 := hy5; have z6 := hy6; have q_len := hlen; have q_pos := hpos; have q_big := hbig; have q_n := nI_toInt (n := PP.length) (by omega); omega) (by have z0 := hy0; have z1 := hy1; have z2 := hy2; have z3 := hy3; have z4 := hy4; have z5 := hy5; have z6 := hy6; have q_len := hlen; have q_pos := hpos; have q_big := hbig; have q_n := nI_toInt (n := PP.length) (by omega); omega) (by have z0 := hy0; have z1 := hy1; have z2 := hy2; have z3 := hy3; have z4 := hy4; have z5 := hy5; have z6 := hy6; have q_len := hlen; have q_pos := hpos; have q_big := hbig; have q_n := nI_toInt (n := PP.length) (by omega); omega)) (cwV 2 hts gL_surveyorOf_X10_surveyorOf rfl rfl rfl (by decide +kernel) ⟨Nat.le_of_ble_eq_true rfl, Nat.le_of_ble_eq_true rfl⟩) ⟨PR_.blind, va_recv hK hP (ci := 13) (q0 := 9) rfl rfl, PR_.pre hF hK (hP.part [0, 1, 2, 3, 4, 5, 6, 7, 8, 9] rfl) hS hA [0, 1, 2, 3, 4, 5] rfl⟩ rfl rfl hl.1 rfl (lv_room (Nat.le_of_ble_eq_true rfl)) dL_surveyorOf_3 ⟨(Nat.le_of_ble_eq_true rfl), (Nat.le_of_ble_eq_true rfl)⟩) hP hS hA (fun H locs c_2 hP hS => ?_) (fun E9 ce q9 H locs hE hP hS hce hvm hcl => ?_)
  · rw [if_pos c_2] at hM
    refine W.eq (g2 := F0 m 6 ls [.int (F_X10_surveyorOf PP ds cs mp pk cn n a2 a3).2]) rfl ?_
    refine W.widen (k := 2) (n := 12) (Nat.le_of_ble_eq_true rfl) (Nat.le_of_ble_eq_true rfl) ?_
    exact W.iret (v := (F_X10_surveyorOf PP ds cs mp pk cn n a2 a3).2) hx hb hr (QR_.mk hS (by rw [hM])) hS.2.2 dL_surveyorOf_6
  · rcases hE with ⟨rfl, c_2⟩ | ⟨rfl, c_2⟩
    · rw [if_neg (show ¬ (F_X10_surveyorOf PP ds cs mp pk cn n a2 a3).1 = 0 from by rw [c_2]; decide)] at hM
      rw [if_pos c_2] at hM
      refine vx_catch (own := RL) (name := "java/lang/IndexOutOfBoundsException") (E := "java/lang/IndexOutOfBoundsException") hown [] (⟨0, 6, 7, 36⟩ : ExceptionTableEntry) [(⟨0, 6, 12, 38⟩ : ExceptionTableEntry)] (htb.trans rfl) (fun z hz => by cases hz) (by decide) (by decide) (hts (.classLink RL 36 "java/lang/IndexOutOfBoundsException") (List.mem_of_getElem? (i := 1) (by decide +kernel))) (fxk_ hF "java/lang/IndexOutOfBoundsException" "java/lang/IndexOutOfBoundsException") hce hvm hcl ?_
      refine W.eq (g2 := F0 m 7 ls [.ref q9]) rfl ?_
      refine lv_astore_n (lv' := [(3, .ref q9), (0, .ref h_M), (1, .int a2), (2, .int a3)]) hx hb dL_surveyorOf_7 rfl hl (by decide) rfl (fun ls hl => ?_)
      refine lv_sipush (v := (-1001)) hx hb dL_surveyorOf_8 (by decide +kernel) ?_
      refine W.widen (k := 2) (n := 12) (Nat.le_of_ble_eq_true rfl) (Nat.le_of_ble_eq_true rfl) ?_
      exact W.iret (v := (-1001)) hx hb hr (QR_.mk hS (by rw [hM])) hS.2.2 dL_surveyorOf_11
    · rw [if_neg (show ¬ (F_X10_surveyorOf PP ds cs mp pk cn n a2 a3).1 = 0 from by rw [c_2]; decide)] at hM
      rw [if_neg (show ¬ (F_X10_surveyorOf PP ds cs mp pk cn n a2 a3).1 = 2 from by rw [c_2]; decide)] at hM
      refine vx_catch (own := RL) (name := "java/lang/IllegalArgumentException") (E := "java/lang/IllegalArgumentException") hown [(⟨0, 6, 7, 36⟩ : ExceptionTableEntry)] (⟨0, 6, 12, 38⟩ : ExceptionTableEntry) [] (htb.trans rfl) (List.forall_mem_cons.mpr ⟨(Or.inr ⟨by decide, "java/lang/IndexOutOfBoundsException", (hts (.classLink RL 36 "java/lang/IndexOutOfBoundsException") (List.mem_of_getElem? (i := 1) (by decide +kernel))), fxd_ hF "java/lang/IllegalArgumentException" "java/lang/IndexOutOfBoundsException"⟩), (fun z hz => absurd hz List.not_mem_nil)⟩) (by decide) (by decide) (fxl_ hF (38, "java/lang/IllegalArgumentException")) (fxk_ hF "java/lang/IllegalArgumentException" "java/lang/IllegalArgumentException") hce hvm hcl ?_
      refine W.eq (g2 := F0 m 12 ls [.ref q9]) rfl ?_
      refine lv_astore_n (lv' := [(3, .ref q9), (0, .ref h_M), (1, .int a2), (2, .int a3)]) hx hb dL_surveyorOf_12 rfl hl (by decide) rfl (fun ls hl => ?_)
      refine lv_sipush (v := (-1002)) hx hb dL_surveyorOf_13 (by decide +kernel) ?_
      refine W.widen (k := 2) (n := 12) (Nat.le_of_ble_eq_true rfl) (Nat.le_of_ble_eq_true rfl) ?_
      exact W.iret (v := (-1002)) hx hb hr (QR_.mk hS (by rw [hM])) hS.2.2 dL_surveyorOf_16
def F_L_members (ds : Nat → Int32) (n : Int32) (a2 : Int32) : Int32 := (if (F_X10_members ds n a2).1 = 0 then (F_X10_members ds n a2).2 else (-1001))
set_option maxHeartbeats 4000000 in
set_option maxRecDepth 100000 in
theorem c_L_members (l : Launch) (hl0 : l.stackTraces = false) (D : va_G) (ad : Nat → Nat) (sz : Nat) (h_ds : Nat) (h_S : Nat) (h_M : Nat) (k_ds : ClassId) (h_S_0 : Value) (h_S_2 : Value) (h_S_3 : Value) (h_S_4 : Value) (h_S_6 : Value) (h_S_7 : Value) (h_S_8 : Value) (h_S_9 : Value) (h_M_1 : Value) (h_M_2 : Value) (h_M_3 : Value) (h_M_4 : Value) (h_M_5 : Value) (h_M_6 : Value) (h_M_7 : Value) (h_M_8 : Value) (h_M_9 : Value) (ds : Nat → Int32) (n : Int32) (a2 : Int32) (hy0 : n.toInt ≤ 6) : Met l yL_members wsL_members ({ frames := 8, cells := 1, slots := 6, locals := 147 }) (PR_ D ad [(h_ds, .inl (k_ds, 6, .inl ds)), (h_S, .inr (11, [h_S_0, .ref h_ds, h_S_2, h_S_3, h_S_4, .int n, h_S_6, h_S_7, h_S_8, h_S_9])), (h_M, .inr (13, [.ref h_S, h_M_1, h_M_2, h_M_3, h_M_4, h_M_5, h_M_6, h_M_7, h_M_8, h_M_9]))] [(k_ds, .int)] sz [.ref h_M, .int a2]) (QR_ (.int (F_L_members ds n a2)) (va_A [] sz)) 1 6 (va_A [] sz) := by
  refine va_MetW (cc := cL_members) (maxL := 3) (ret := (some .int)) (by decide) rfl ?_
  intro p e s m args below meth c s₁ B hml hv
  obtain ⟨rfl, hsz, hP, hK, hF⟩ := hv
  have hx := B.exec
  have hb := B.bytes
  have hr := B.returns
  have hts := atoms_spec (ws := wsL_members) B.pre
  have hown : s.vm.findClass RL = some m.cls := findClass_of_methodNamed B.named
  have hlocks := B.notSynchronized
  have htb := vx_table (x := yL_members) B (hts _ (List.mem_cons_self))
  subst hsz
  generalize hAe : va_A [] s.heap.size = A at hF ⊢
  have hA : ∀ q : Nat, s.heap.size ≤ q → A q := fun q h => by rw [← hAe]; exact Or.inr h
  obtain ⟨H, hHe⟩ : ∃ H : Heap, H = s.heap := ⟨_, rfl⟩
  have hS : va_S A s.heap H [] := by rw [hHe]; exact va_S.rf
  have hP : va_P D vwCl [(h_ds, .inl (k_ds, 6, .inl ds)), (h_S, .inr (11, [h_S_0, .ref h_ds, h_S_2, h_S_3, h_S_4, .int n, h_S_6, h_S_7, h_S_8, h_S_9])), (h_M, .inr (13, [.ref h_S, h_M_1, h_M_2, h_M_3, h_M_4, h_M_5, h_M_6, h_M_7, h_M_8, h_M_9]))] H := by rw [hHe]; exact hP
  rw [← hHe]
  have hl := lv_entry [.ref h_M, .int a2] (n := 3) (Nat.le_of_ble_eq_true rfl)
  rw [lg_entry_eq]
  generalize (lg_sl [.ref h_M, .int a2] ++ List.replicate (3 - (lg_sl [.ref h_M, .int a2]).length) Slot.unset).toArray = ls at hl ⊢
  have hl : lv_has ls 3 [(0, .ref h_M), (1, .int a2)] := hl
  have hM : F_L_members ds n a2 = (if (F_X10_members ds n a2).1 = 0 then (F_X10_members ds n a2).2 else (-1001)) := rfl
  refine lv_aload_n hx hb dL_members_0 rfl (lv_at hl 0 rfl) ?_
  refine lv_iload_n hx hb dL_members_1 rfl (lv_at hl 1 rfl) ?_
  refine kzr_ (vx_runV (As := [.int a2]) (rest := []) ⟨hx, hb, hml, hown, hts⟩ (c_X10_members l hl0 D ad H.size h_ds h_S h_M k_ds (h_S_0) (h_S_2) (h_S_3) (h_S_4) (h_S_6) (h_S_7) (h_S_8) (h_S_9) (h_M_1) (h_M_2) (h_M_3) (h_M_4) (h_M_5) (h_M_6) (h_M_7) (h_M_8) (h_M_9) ds n a2 (by have z0 := hy0; omega)) (cwV 1 hts gL_members_X10_members rfl rfl rfl (by decide +kernel) ⟨Nat.le_of_ble_eq_true rfl, Nat.le_of_ble_eq_true rfl⟩) ⟨PR_.blind, va_recv hK hP (ci := 13) (q0 := 2) rfl rfl, PR_.pre hF hK (hP.sub [0, 1, 2] rfl) hS hA [0] rfl⟩ rfl rfl hl.1 rfl (lv_room (Nat.le_of_ble_eq_true rfl)) dL_members_2 ⟨(Nat.le_of_ble_eq_true rfl), (Nat.le_of_ble_eq_true rfl)⟩) hP hS hA (fun H locs c_2 hP hS => ?_) (fun E9 ce q9 H locs hE hP hS hce hvm hcl => ?_)
  · rw [if_pos c_2] at hM
    refine W.eq (g2 := F0 m 5 ls [.int (F_X10_members ds n a2).2]) rfl ?_
    refine W.widen (k := 1) (n := 6) (Nat.le_of_ble_eq_true rfl) (Nat.le_of_ble_eq_true rfl) ?_
    exact W.iret (v := (F_X10_members ds n a2).2) hx hb hr (QR_.mk hS (by rw [hM])) hS.2.2 dL_members_5
  · rcases hE with ⟨rfl, c_2⟩
    · rw [if_neg (show ¬ (F_X10_members ds n a2).1 = 0 from by rw [c_2]; decide)] at hM
      refine vx_catch (own := RL) (name := "java/lang/IllegalArgumentException") (E := "java/lang/IllegalArgumentException") hown [] (⟨0, 5, 6, 38⟩ : ExceptionTableEntry) [] (htb.trans rfl) (fun z hz => by cases hz) (by decide) (by decide) (hts (.classLink RL 38 "java/lang/IllegalArgumentException") (List.mem_of_getElem? (i := 1) (by decide +kernel))) (fxk_ hF "java/lang/IllegalArgumentException" "java/lang/IllegalArgumentException") hce hvm hcl ?_
      refine W.eq (g2 := F0 m 6 ls [.ref q9]) rfl ?_
      refine lv_astore_n (lv' := [(2, .ref q9), (0, .ref h_M), (1, .int a2)]) hx hb dL_members_6 rfl hl (by decide) rfl (fun ls hl => ?_)
      refine lv_sipush (v := (-1001)) hx hb dL_members_7 (by decide +kernel) ?_
      refine W.widen (k := 1) (n := 6) (Nat.le_of_ble_eq_true rfl) (Nat.le_of_ble_eq_true rfl) ?_
      exact W.iret (v := (-1001)) hx hb hr (QR_.mk hS (by rw [hM])) hS.2.2 dL_members_10
def F_L_busiest (PP : List PG) (ds : Nat → Int32) (cs : Nat → Int32) (mp : Nat → Int32) (n : Int32) (a2 : Int32) : Int32 := (if (F_X10_busiest PP ds cs mp n a2).1 = 0 then (F_X10_busiest PP ds cs mp n a2).2 else (-1001))
set_option maxHeartbeats 4000000 in
set_option maxRecDepth 100000 in
theorem c_L_busiest (l : Launch) (hl0 : l.stackTraces = false) (D : va_G) (ad : Nat → Nat) (sz : Nat) (h_el : Nat) (h_li : Nat) (h_A : Nat) (h_ds : Nat) (h_cs : Nat) (h_mp : Nat) (h_S : Nat) (h_M : Nat) (k_el : ClassId) (k_ds : ClassId) (k_cs : ClassId) (k_mp : ClassId) (h_li_0 : Value) (h_S_4 : Value) (h_S_6 : Value) (h_S_7 : Value) (h_S_8 : Value) (h_S_9 : Value) (h_M_1 : Value) (h_M_2 : Value) (h_M_3 : Value) (h_M_4 : Value) (h_M_5 : Value) (h_M_6 : Value) (h_M_7 : Value) (h_M_8 : Value) (h_M_9 : Value) (kI : ClassId) (AL : List (Nat × Nat)) (PP : List PG) (capE : Nat) (ds : Nat → Int32) (cs : Nat → Int32) (mp : Nat → Int32) (n : Int32) (a2 : Int32) (hlen : AL.length = PP.length) (hpos : 0 < PP.length) (hbig : PP.length ≤ 2000000) (hy0 : n.toInt ≤ 6) (hy1 : PP.length ≤ capE) : Met l yL_busiest wsL_busiest ({ frames := 7, cells := 1, slots := 6, locals := 167 }) (PR_ D ad ([(h_el, .inl (k_el, capE, .inr (.inr (.inr (.inr (egl AL)))))), (h_li, .inr (4, [h_li_0, .ref h_el, .int (nI PP.length)])), (h_A, .inr (5, [.ref h_li, .ref (pad AL 0)])), (h_ds, .inl (k_ds, 6, .inl ds)), (h_cs, .inl (k_cs, 36, .inl cs)), (h_mp, .inl (k_mp, 36, .inl mp)), (h_S, .inr (11, [.ref h_A, .ref h_ds, .ref h_cs, .ref h_mp, h_S_4, .int n, h_S_6, h_S_7, h_S_8, h_S_9])), (h_M, .inr (13, [.ref h_S, h_M_1, h_M_2, h_M_3, h_M_4, h_M_5, h_M_6, h_M_7, h_M_8, h_M_9]))] ++ pgl kI AL PP) [(k_el, .object "java/lang/Object"), (k_ds, .int), (k_cs, .int), (k_mp, .int), (kI, .int)] sz [.ref h_M, .int a2]) (QR_ (.int (F_L_busiest PP ds cs mp n a2)) (va_A [] sz)) 1 6 (va_A [] sz) := by
  refine va_MetW (cc := cL_busiest) (maxL := 3) (ret := (some .int)) (by decide) rfl ?_
  intro p e s m args below meth c s₁ B hml hv
  obtain ⟨rfl, hsz, hP, hK, hF⟩ := hv
  have hx := B.exec
  have hb := B.bytes
  have hr := B.returns
  have hts := atoms_spec (ws := wsL_busiest) B.pre
  have hown : s.vm.findClass RL = some m.cls := findClass_of_methodNamed B.named
  have hlocks := B.notSynchronized
  have htb := vx_table (x := yL_busiest) B (hts _ (List.mem_cons_self))
  subst hsz
  generalize hAe : va_A [] s.heap.size = A at hF ⊢
  have hA : ∀ q : Nat, s.heap.size ≤ q → A q := fun q h => by rw [← hAe]; exact Or.inr h
  obtain ⟨H, hHe⟩ : ∃ H : Heap, H = s.heap := ⟨_, rfl⟩
  have hS : va_S A s.heap H [] := by rw [hHe]; exact va_S.rf
  have hP : va_P D vwCl ([(h_el, .inl (k_el, capE, .inr (.inr (.inr (.inr (egl AL)))))), (h_li, .inr (4, [h_li_0, .ref h_el, .int (nI PP.length)])), (h_A, .inr (5, [.ref h_li, .ref (pad AL 0)])), (h_ds, .inl (k_ds, 6, .inl ds)), (h_cs, .inl (k_cs, 36, .inl cs)), (h_mp, .inl (k_mp, 36, .inl mp)), (h_S, .inr (11, [.ref h_A, .ref h_ds, .ref h_cs, .ref h_mp, h_S_4, .int n, h_S_6, h_S_7, h_S_8, h_S_9])), (h_M, .inr (13, [.ref h_S, h_M_1, h_M_2, h_M_3, h_M_4, h_M_5, h_M_6, h_M_7, h_M_8, h_M_9]))] ++ pgl kI AL PP) H := by rw [hHe]; exact hP
  rw [← hHe]
  have hl := lv_entry [.ref h_M, .int a2] (n := 3) (Nat.le_of_ble_eq_true rfl)
  rw [lg_entry_eq]
  generalize (lg_sl [.ref h_M, .int a2] ++ List.replicate (3 - (lg_sl [.ref h_M, .int a2]).length) Slot.unset).toArray = ls at hl ⊢
  have hl : lv_has ls 3 [(0, .ref h_M), (1, .int a2)] := hl
  have hM : F_L_busiest PP ds cs mp n a2 = (if (F_X10_busiest PP ds cs mp n a2).1 = 0 then (F_X10_busiest PP ds cs mp n a2).2 else (-1001)) := rfl
  refine lv_aload_n hx hb dL_busiest_0 rfl (lv_at hl 0 rfl) ?_
  refine lv_iload_n hx hb dL_busiest_1 rfl (lv_at hl 1 rfl) ?_
  refine kzr_ (vx_runV (As := [.int a2]) (rest := []) ⟨hx, hb, hml, hown, hts⟩ (c_X10_busiest l hl0 D ad H.size h_el h_li h_A h_ds h_cs h_mp h_S h_M k_el k_ds k_cs k_mp (h_li_0) (h_S_4) (h_S_6) (h_S_7) (h_S_8) (h_S_9) (h_M_1) (h_M_2) (h_M_3) (h_M_4) (h_M_5) (h_M_6) (h_M_7) (h_M_8) (h_M_9) kI AL PP capE ds cs mp n a2 hlen hpos hbig (by have z0 := hy0; have z1 := hy1; have q_len := hlen; have q_pos := hpos; have q_big := hbig; have q_n := nI_toInt (n := PP.length) (by omega); omega) (by have z0 := hy0; have z1 := hy1; have q_len := hlen; have q_pos := hpos; have q_big := hbig; have q_n := nI_toInt (n := PP.length) (by omega); omega)) (cwV 1 hts gL_busiest_X10_busiest rfl rfl rfl (by decide +kernel) ⟨Nat.le_of_ble_eq_true rfl, Nat.le_of_ble_eq_true rfl⟩) ⟨PR_.blind, va_recv hK hP (ci := 13) (q0 := 7) rfl rfl, PR_.pre hF hK (hP.part [0, 1, 2, 3, 4, 5, 6, 7] rfl) hS hA [0, 1, 2, 3, 4] rfl⟩ rfl rfl hl.1 rfl (lv_room (Nat.le_of_ble_eq_true rfl)) dL_busiest_2 ⟨(Nat.le_of_ble_eq_true rfl), (Nat.le_of_ble_eq_true rfl)⟩) hP hS hA (fun H locs c_2 hP hS => ?_) (fun E9 ce q9 H locs hE hP hS hce hvm hcl => ?_)
  · rw [if_pos c_2] at hM
    refine W.eq (g2 := F0 m 5 ls [.int (F_X10_busiest PP ds cs mp n a2).2]) rfl ?_
    refine W.widen (k := 1) (n := 6) (Nat.le_of_ble_eq_true rfl) (Nat.le_of_ble_eq_true rfl) ?_
    exact W.iret (v := (F_X10_busiest PP ds cs mp n a2).2) hx hb hr (QR_.mk hS (by rw [hM])) hS.2.2 dL_busiest_5
  · rcases hE with ⟨rfl, c_2⟩
    · rw [if_neg (show ¬ (F_X10_busiest PP ds cs mp n a2).1 = 0 from by rw [c_2]; decide)] at hM
      refine vx_catch (own := RL) (name := "java/util/NoSuchElementException") (E := "java/util/NoSuchElementException") hown [] (⟨0, 5, 6, 43⟩ : ExceptionTableEntry) [] (htb.trans rfl) (fun z hz => by cases hz) (by decide) (by decide) (hts (.classLink RL 43 "java/util/NoSuchElementException") (List.mem_of_getElem? (i := 1) (by decide +kernel))) (fxk_ hF "java/util/NoSuchElementException" "java/util/NoSuchElementException") hce hvm hcl ?_
      refine W.eq (g2 := F0 m 6 ls [.ref q9]) rfl ?_
      refine lv_astore_n (lv' := [(2, .ref q9), (0, .ref h_M), (1, .int a2)]) hx hb dL_busiest_6 rfl hl (by decide) rfl (fun ls hl => ?_)
      refine lv_sipush (v := (-1001)) hx hb dL_busiest_7 (by decide +kernel) ?_
      refine W.widen (k := 1) (n := 6) (Nat.le_of_ble_eq_true rfl) (Nat.le_of_ble_eq_true rfl) ?_
      exact W.iret (v := (-1001)) hx hb hr (QR_.mk hS (by rw [hM])) hS.2.2 dL_busiest_10
def F_L_agree (PP : List PG) (ds : Nat → Int32) (mp : Nat → Int32) (n : Int32) (a2 : Int32) : Int32 := (if (F_X10_agree PP ds mp n a2).1 = 0 then (if (F_X10_agree PP ds mp n a2).2 = 0 then 0 else 1) else (-1001))
set_option maxHeartbeats 4000000 in
set_option maxRecDepth 100000 in
theorem c_L_agree (l : Launch) (hl0 : l.stackTraces = false) (D : va_G) (ad : Nat → Nat) (sz : Nat) (h_el : Nat) (h_li : Nat) (h_A : Nat) (h_ds : Nat) (h_mp : Nat) (h_S : Nat) (h_M : Nat) (k_el : ClassId) (k_ds : ClassId) (k_mp : ClassId) (h_li_0 : Value) (h_S_2 : Value) (h_S_4 : Value) (h_S_6 : Value) (h_S_7 : Value) (h_S_8 : Value) (h_S_9 : Value) (h_M_1 : Value) (h_M_2 : Value) (h_M_3 : Value) (h_M_4 : Value) (h_M_5 : Value) (h_M_6 : Value) (h_M_7 : Value) (h_M_8 : Value) (h_M_9 : Value) (kI : ClassId) (AL : List (Nat × Nat)) (PP : List PG) (capE : Nat) (ds : Nat → Int32) (mp : Nat → Int32) (n : Int32) (a2 : Int32) (hlen : AL.length = PP.length) (hpos : 0 < PP.length) (hbig : PP.length ≤ 2000000) (hy0 : n.toInt ≤ 6) (hy1 : PP.length ≤ capE) : Met l yL_agree wsL_agree ({ frames := 8, cells := 1, slots := 6, locals := 168 }) (PR_ D ad ([(h_el, .inl (k_el, capE, .inr (.inr (.inr (.inr (egl AL)))))), (h_li, .inr (4, [h_li_0, .ref h_el, .int (nI PP.length)])), (h_A, .inr (5, [.ref h_li, .ref (pad AL 0)])), (h_ds, .inl (k_ds, 6, .inl ds)), (h_mp, .inl (k_mp, 36, .inl mp)), (h_S, .inr (11, [.ref h_A, .ref h_ds, h_S_2, .ref h_mp, h_S_4, .int n, h_S_6, h_S_7, h_S_8, h_S_9])), (h_M, .inr (13, [.ref h_S, h_M_1, h_M_2, h_M_3, h_M_4, h_M_5, h_M_6, h_M_7, h_M_8, h_M_9]))] ++ pgl kI AL PP) [(k_el, .object "java/lang/Object"), (k_ds, .int), (k_mp, .int), (kI, .int)] sz [.ref h_M, .int a2]) (QR_ (.int (F_L_agree PP ds mp n a2)) (va_A [] sz)) 1 6 (va_A [] sz) := by
  refine va_MetW (cc := cL_agree) (maxL := 3) (ret := (some .int)) (by decide) rfl ?_
  intro p e s m args below meth c s₁ B hml hv
  obtain ⟨rfl, hsz, hP, hK, hF⟩ := hv
  have hx := B.exec
  have hb := B.bytes
  have hr := B.returns
  have hts := atoms_spec (ws := wsL_agree) B.pre
  have hown : s.vm.findClass RL = some m.cls := findClass_of_methodNamed B.named
  have hlocks := B.notSynchronized
  have htb := vx_table (x := yL_agree) B (hts _ (List.mem_cons_self))
  subst hsz
  generalize hAe : va_A [] s.heap.size = A at hF ⊢
  have hA : ∀ q : Nat, s.heap.size ≤ q → A q := fun q h => by rw [← hAe]; exact Or.inr h
  obtain ⟨H, hHe⟩ : ∃ H : Heap, H = s.heap := ⟨_, rfl⟩
  have hS : va_S A s.heap H [] := by rw [hHe]; exact va_S.rf
  have hP : va_P D vwCl ([(h_el, .inl (k_el, capE, .inr (.inr (.inr (.inr (egl AL)))))), (h_li, .inr (4, [h_li_0, .ref h_el, .int (nI PP.length)])), (h_A, .inr (5, [.ref h_li, .ref (pad AL 0)])), (h_ds, .inl (k_ds, 6, .inl ds)), (h_mp, .inl (k_mp, 36, .inl mp)), (h_S, .inr (11, [.ref h_A, .ref h_ds, h_S_2, .ref h_mp, h_S_4, .int n, h_S_6, h_S_7, h_S_8, h_S_9])), (h_M, .inr (13, [.ref h_S, h_M_1, h_M_2, h_M_3, h_M_4, h_M_5, h_M_6, h_M_7, h_M_8, h_M_9]))] ++ pgl kI AL PP) H := by rw [hHe]; exact hP
  rw [← hHe]
  have hl := lv_entry [.ref h_M, .int a2] (n := 3) (Nat.le_of_ble_eq_true rfl)
  rw [lg_entry_eq]
  generalize (lg_sl [.ref h_M, .int a2] ++ List.replicate (3 - (lg_sl [.ref h_M, .int a2]).length) Slot.unset).toArray = ls at hl ⊢
  have hl : lv_has ls 3 [(0, .ref h_M), (1, .int a2)] := hl
  have hM : F_L_agree PP ds mp n a2 = (if (F_X10_agree PP ds mp n a2).1 = 0 then (if (F_X10_agree PP ds mp n a2).2 = 0 then 0 else 1) else (-1001)) := rfl
  refine lv_aload_n hx hb dL_agree_0 rfl (lv_at hl 0 rfl) ?_
  refine lv_iload_n hx hb dL_agree_1 rfl (lv_at hl 1 rfl) ?_
  refine kzr_ (vx_runV (As := [.int a2]) (rest := []) ⟨hx, hb, hml, hown, hts⟩ (c_X10_agree l hl0 D ad H.size h_el h_li h_A h_ds h_mp h_S h_M k_el k_ds k_mp (h_li_0) (h_S_2) (h_S_4) (h_S_6) (h_S_7) (h_S_8) (h_S_9) (h_M_1) (h_M_2) (h_M_3) (h_M_4) (h_M_5) (h_M_6) (h_M_7) (h_M_8) (h_M_9) kI AL PP capE ds mp n a2 hlen hpos hbig (by have z0 := hy0; have z1 := hy1; have q_len := hlen; have q_pos := hpos; have q_big := hbig; have q_n := nI_toInt (n := PP.length) (by omega); omega) (by have z0 := hy0; have z1 := hy1; have q_len := hlen; have q_pos := hpos; have q_big := hbig; have q_n := nI_toInt (n := PP.length) (by omega); omega)) (cwV 1 hts gL_agree_X10_agree rfl rfl rfl (by decide +kernel) ⟨Nat.le_of_ble_eq_true rfl, Nat.le_of_ble_eq_true rfl⟩) ⟨PR_.blind, va_recv hK hP (ci := 13) (q0 := 6) rfl rfl, PR_.pre hF hK (hP.part [0, 1, 2, 3, 4, 5, 6] rfl) hS hA [0, 1, 2, 3] rfl⟩ rfl rfl hl.1 rfl (lv_room (Nat.le_of_ble_eq_true rfl)) dL_agree_2 ⟨(Nat.le_of_ble_eq_true rfl), (Nat.le_of_ble_eq_true rfl)⟩) hP hS hA (fun H locs c_2 hP hS => ?_) (fun E9 ce q9 H locs hE hP hS hce hvm hcl => ?_)
  · rw [if_pos c_2] at hM
    refine W.eq (g2 := F0 m 5 ls [.int (F_X10_agree PP ds mp n a2).2]) rfl ?_
    refine lv_if_eq (tgt := 12) hx hb dL_agree_5 (by decide) (fun c_3 => ?_) (fun c_3 => ?_)
    · rw [if_pos c_3] at hM
      refine lv_iconst (v := 0) hx hb dL_agree_12 (by decide) ?_
      refine W.widen (k := 1) (n := 6) (Nat.le_of_ble_eq_true rfl) (Nat.le_of_ble_eq_true rfl) ?_
      exact W.iret (v := 0) hx hb hr (QR_.mk hS (by rw [hM])) hS.2.2 dL_agree_13
    · rw [if_neg c_3] at hM
      refine lv_iconst (v := 1) hx hb dL_agree_8 (by decide) ?_
      refine lv_goto (tgt := 13) hx hb dL_agree_9 (by decide) ?_
      refine W.widen (k := 1) (n := 6) (Nat.le_of_ble_eq_true rfl) (Nat.le_of_ble_eq_true rfl) ?_
      exact W.iret (v := 1) hx hb hr (QR_.mk hS (by rw [hM])) hS.2.2 dL_agree_13
  · rcases hE with ⟨rfl, c_2⟩
    · rw [if_neg (show ¬ (F_X10_agree PP ds mp n a2).1 = 0 from by rw [c_2]; decide)] at hM
      refine vx_catch (own := RL) (name := "java/lang/IllegalArgumentException") (E := "java/lang/IllegalArgumentException") hown [] (⟨0, 13, 14, 38⟩ : ExceptionTableEntry) [] (htb.trans rfl) (fun z hz => by cases hz) (by decide) (by decide) (hts (.classLink RL 38 "java/lang/IllegalArgumentException") (List.mem_of_getElem? (i := 1) (by decide +kernel))) (fxk_ hF "java/lang/IllegalArgumentException" "java/lang/IllegalArgumentException") hce hvm hcl ?_
      refine W.eq (g2 := F0 m 14 ls [.ref q9]) rfl ?_
      refine lv_astore_n (lv' := [(2, .ref q9), (0, .ref h_M), (1, .int a2)]) hx hb dL_agree_14 rfl hl (by decide) rfl (fun ls hl => ?_)
      refine lv_sipush (v := (-1001)) hx hb dL_agree_15 (by decide +kernel) ?_
      refine W.widen (k := 1) (n := 6) (Nat.le_of_ble_eq_true rfl) (Nat.le_of_ble_eq_true rfl) ?_
      exact W.iret (v := (-1001)) hx hb hr (QR_.mk hS (by rw [hM])) hS.2.2 dL_agree_18
def F_L_agreeAgain (PP : List PG) (ds : Nat → Int32) (mp : Nat → Int32) (n : Int32) (a2 : Int32) : Int32 := (if (F_X10_agreeAgain PP ds mp n a2).1 = 0 then (if (F_X10_agreeAgain PP ds mp n a2).2 = 0 then 0 else 1) else (-1001))
set_option maxHeartbeats 4000000 in
set_option maxRecDepth 100000 in
theorem c_L_agreeAgain (l : Launch) (hl0 : l.stackTraces = false) (D : va_G) (ad : Nat → Nat) (sz : Nat) (h_el : Nat) (h_li : Nat) (h_A : Nat) (h_ds : Nat) (h_mp : Nat) (h_S : Nat) (h_M : Nat) (k_el : ClassId) (k_ds : ClassId) (k_mp : ClassId) (h_li_0 : Value) (h_S_2 : Value) (h_S_4 : Value) (h_S_6 : Value) (h_S_7 : Value) (h_S_8 : Value) (h_S_9 : Value) (h_M_1 : Value) (h_M_2 : Value) (h_M_3 : Value) (h_M_4 : Value) (h_M_5 : Value) (h_M_6 : Value) (h_M_7 : Value) (h_M_8 : Value) (h_M_9 : Value) (kI : ClassId) (AL : List (Nat × Nat)) (PP : List PG) (capE : Nat) (ds : Nat → Int32) (mp : Nat → Int32) (n : Int32) (a2 : Int32) (hlen : AL.length = PP.length) (hpos : 0 < PP.length) (hbig : PP.length ≤ 2000000) (hy0 : n.toInt ≤ 6) (hy1 : PP.length ≤ capE) : Met l yL_agreeAgain wsL_agreeAgain ({ frames := 8, cells := 1, slots := 6, locals := 167 }) (PR_ D ad ([(h_el, .inl (k_el, capE, .inr (.inr (.inr (.inr (egl AL)))))), (h_li, .inr (4, [h_li_0, .ref h_el, .int (nI PP.length)])), (h_A, .inr (5, [.ref h_li, .ref (pad AL 0)])), (h_ds, .inl (k_ds, 6, .inl ds)), (h_mp, .inl (k_mp, 36, .inl mp)), (h_S, .inr (11, [.ref h_A, .ref h_ds, h_S_2, .ref h_mp, h_S_4, .int n, h_S_6, h_S_7, h_S_8, h_S_9])), (h_M, .inr (13, [.ref h_S, h_M_1, h_M_2, h_M_3, h_M_4, h_M_5, h_M_6, h_M_7, h_M_8, h_M_9]))] ++ pgl kI AL PP) [(k_el, .object "java/lang/Object"), (k_ds, .int), (k_mp, .int), (kI, .int)] sz [.ref h_M, .int a2]) (QR_ (.int (F_L_agreeAgain PP ds mp n a2)) (va_A [] sz)) 1 6 (va_A [] sz) := by
  refine va_MetW (cc := cL_agreeAgain) (maxL := 3) (ret := (some .int)) (by decide) rfl ?_
  intro p e s m args below meth c s₁ B hml hv
  obtain ⟨rfl, hsz, hP, hK, hF⟩ := hv
  have hx := B.exec
  have hb := B.bytes
  have hr := B.returns
  have hts := atoms_spec (ws := wsL_agreeAgain) B.pre
  have hown : s.vm.findClass RL = some m.cls := findClass_of_methodNamed B.named
  have hlocks := B.notSynchronized
  have htb := vx_table (x := yL_agreeAgain) B (hts _ (List.mem_cons_self))
  subst hsz
  generalize hAe : va_A [] s.heap.size = A at hF ⊢
  have hA : ∀ q : Nat, s.heap.size ≤ q → A q := fun q h => by rw [← hAe]; exact Or.inr h
  obtain ⟨H, hHe⟩ : ∃ H : Heap, H = s.heap := ⟨_, rfl⟩
  have hS : va_S A s.heap H [] := by rw [hHe]; exact va_S.rf
  have hP : va_P D vwCl ([(h_el, .inl (k_el, capE, .inr (.inr (.inr (.inr (egl AL)))))), (h_li, .inr (4, [h_li_0, .ref h_el, .int (nI PP.length)])), (h_A, .inr (5, [.ref h_li, .ref (pad AL 0)])), (h_ds, .inl (k_ds, 6, .inl ds)), (h_mp, .inl (k_mp, 36, .inl mp)), (h_S, .inr (11, [.ref h_A, .ref h_ds, h_S_2, .ref h_mp, h_S_4, .int n, h_S_6, h_S_7, h_S_8, h_S_9])), (h_M, .inr (13, [.ref h_S, h_M_1, h_M_2, h_M_3, h_M_4, h_M_5, h_M_6, h_M_7, h_M_8, h_M_9]))] ++ pgl kI AL PP) H := by rw [hHe]; exact hP
  rw [← hHe]
  have hl := lv_entry [.ref h_M, .int a2] (n := 3) (Nat.le_of_ble_eq_true rfl)
  rw [lg_entry_eq]
  generalize (lg_sl [.ref h_M, .int a2] ++ List.replicate (3 - (lg_sl [.ref h_M, .int a2]).length) Slot.unset).toArray = ls at hl ⊢
  have hl : lv_has ls 3 [(0, .ref h_M), (1, .int a2)] := hl
  have hM : F_L_agreeAgain PP ds mp n a2 = (if (F_X10_agreeAgain PP ds mp n a2).1 = 0 then (if (F_X10_agreeAgain PP ds mp n a2).2 = 0 then 0 else 1) else (-1001)) := rfl
  refine lv_aload_n hx hb dL_agreeAgain_0 rfl (lv_at hl 0 rfl) ?_
  refine lv_iload_n hx hb dL_agreeAgain_1 rfl (lv_at hl 1 rfl) ?_
  refine kzr_ (vx_runV (As := [.int a2]) (rest := []) ⟨hx, hb, hml, hown, hts⟩ (c_X10_agreeAgain l hl0 D ad H.size h_el h_li h_A h_ds h_mp h_S h_M k_el k_ds k_mp (h_li_0) (h_S_2) (h_S_4) (h_S_6) (h_S_7) (h_S_8) (h_S_9) (h_M_1) (h_M_2) (h_M_3) (h_M_4) (h_M_5) (h_M_6) (h_M_7) (h_M_8) (h_M_9) kI AL PP capE ds mp n a2 hlen hpos hbig (by have z0 := hy0; have z1 := hy1; have q_len := hlen; have q_pos := hpos; have q_big := hbig; have q_n := nI_toInt (n := PP.length) (by omega); omega) (by have z0 := hy0; have z1 := hy1; have q_len := hlen; have q_pos := hpos; have q_big := hbig; have q_n := nI_toInt (n := PP.length) (by omega); omega)) (cwV 1 hts gL_agreeAgain_X10_agreeAgain rfl rfl rfl (by decide +kernel) ⟨Nat.le_of_ble_eq_true rfl, Nat.le_of_ble_eq_true rfl⟩) ⟨PR_.blind, va_recv hK hP (ci := 13) (q0 := 6) rfl rfl, PR_.pre hF hK (hP.part [0, 1, 2, 3, 4, 5, 6] rfl) hS hA [0, 1, 2, 3] rfl⟩ rfl rfl hl.1 rfl (lv_room (Nat.le_of_ble_eq_true rfl)) dL_agreeAgain_2 ⟨(Nat.le_of_ble_eq_true rfl), (Nat.le_of_ble_eq_true rfl)⟩) hP hS hA (fun H locs c_2 hP hS => ?_) (fun E9 ce q9 H locs hE hP hS hce hvm hcl => ?_)
  · rw [if_pos c_2] at hM
    refine W.eq (g2 := F0 m 5 ls [.int (F_X10_agreeAgain PP ds mp n a2).2]) rfl ?_
    refine lv_if_eq (tgt := 12) hx hb dL_agreeAgain_5 (by decide) (fun c_3 => ?_) (fun c_3 => ?_)
    · rw [if_pos c_3] at hM
      refine lv_iconst (v := 0) hx hb dL_agreeAgain_12 (by decide) ?_
      refine W.widen (k := 1) (n := 6) (Nat.le_of_ble_eq_true rfl) (Nat.le_of_ble_eq_true rfl) ?_
      exact W.iret (v := 0) hx hb hr (QR_.mk hS (by rw [hM])) hS.2.2 dL_agreeAgain_13
    · rw [if_neg c_3] at hM
      refine lv_iconst (v := 1) hx hb dL_agreeAgain_8 (by decide) ?_
      refine lv_goto (tgt := 13) hx hb dL_agreeAgain_9 (by decide) ?_
      refine W.widen (k := 1) (n := 6) (Nat.le_of_ble_eq_true rfl) (Nat.le_of_ble_eq_true rfl) ?_
      exact W.iret (v := 1) hx hb hr (QR_.mk hS (by rw [hM])) hS.2.2 dL_agreeAgain_13
  · rcases hE with ⟨rfl, c_2⟩
    · rw [if_neg (show ¬ (F_X10_agreeAgain PP ds mp n a2).1 = 0 from by rw [c_2]; decide)] at hM
      refine vx_catch (own := RL) (name := "java/lang/IllegalArgumentException") (E := "java/lang/IllegalArgumentException") hown [] (⟨0, 13, 14, 38⟩ : ExceptionTableEntry) [] (htb.trans rfl) (fun z hz => by cases hz) (by decide) (by decide) (hts (.classLink RL 38 "java/lang/IllegalArgumentException") (List.mem_of_getElem? (i := 1) (by decide +kernel))) (fxk_ hF "java/lang/IllegalArgumentException" "java/lang/IllegalArgumentException") hce hvm hcl ?_
      refine W.eq (g2 := F0 m 14 ls [.ref q9]) rfl ?_
      refine lv_astore_n (lv' := [(2, .ref q9), (0, .ref h_M), (1, .int a2)]) hx hb dL_agreeAgain_14 rfl hl (by decide) rfl (fun ls hl => ?_)
      refine lv_sipush (v := (-1001)) hx hb dL_agreeAgain_15 (by decide +kernel) ?_
      refine W.widen (k := 1) (n := 6) (Nat.le_of_ble_eq_true rfl) (Nat.le_of_ble_eq_true rfl) ?_
      exact W.iret (v := (-1001)) hx hb hr (QR_.mk hS (by rw [hM])) hS.2.2 dL_agreeAgain_18
def F_L_account (PP : List PG) (cs : Nat → Int32) (mp : Nat → Int32) (cn : Int32) (sn : Int32) (n : Int32) (tk : Int32) (av : Int32) (lo : Int32) (md : Int32) (hc : Int32) (ln : Int32) (a2 : Int32) : Int32 := (if (F_X10_account PP cs mp cn sn n tk av lo md hc ln a2).1 = 0 then (F_X10_account PP cs mp cn sn n tk av lo md hc ln a2).2 else (-1001))
set_option maxHeartbeats 4000000 in
set_option maxRecDepth 100000 in
theorem c_L_account (l : Launch) (hl0 : l.stackTraces = false) (D : va_G) (ad : Nat → Nat) (sz : Nat) (h_el : Nat) (h_li : Nat) (h_A : Nat) (h_cs : Nat) (h_mp : Nat) (h_L : Nat) (h_S : Nat) (h_H : Nat) (h_T : Nat) (h_M : Nat) (k_el : ClassId) (k_cs : ClassId) (k_mp : ClassId) (h_li_0 : Value) (h_L_0 : Value) (h_S_1 : Value) (h_H_0 : Value) (h_H_1 : Value) (h_T_0 : Value) (h_T_2 : Value) (h_T_3 : Value) (h_T_4 : Value) (h_M_1 : Value) (h_M_2 : Value) (h_M_4 : Value) (h_M_6 : Value) (h_M_7 : Value) (h_M_8 : Value) (h_M_9 : Value) (kI : ClassId) (AL : List (Nat × Nat)) (PP : List PG) (capE : Nat) (cs : Nat → Int32) (mp : Nat → Int32) (cn : Int32) (sn : Int32) (n : Int32) (tk : Int32) (av : Int32) (lo : Int32) (md : Int32) (hc : Int32) (ln : Int32) (a2 : Int32) (hlen : AL.length = PP.length) (hpos : 0 < PP.length) (hbig : PP.length ≤ 2000000) (hy0 : n.toInt ≤ 6) (hy1 : PP.length ≤ capE) (hy2 : 0 ≤ cn.toInt) (hy4 : cn.toInt ≤ 1000000) : Met l yL_account wsL_account ({ frames := 8, cells := 1, slots := 6, locals := 189 }) (PR_ D ad ([(h_el, .inl (k_el, capE, .inr (.inr (.inr (.inr (egl AL)))))), (h_li, .inr (4, [h_li_0, .ref h_el, .int (nI PP.length)])), (h_A, .inr (5, [.ref h_li, .ref (pad AL 0)])), (h_cs, .inl (k_cs, 36, .inl cs)), (h_mp, .inl (k_mp, 36, .inl mp)), (h_L, .inr (8, [h_L_0, .int cn, .int sn])), (h_S, .inr (11, [.ref h_A, h_S_1, .ref h_cs, .ref h_mp, .ref h_L, .int n, .int tk, .int av, .int lo, .int md])), (h_H, .inr (7, [h_H_0, h_H_1, .int hc])), (h_T, .inr (6, [h_T_0, .int ln, h_T_2, h_T_3, h_T_4])), (h_M, .inr (13, [.ref h_S, h_M_1, h_M_2, .ref h_H, h_M_4, .ref h_T, h_M_6, h_M_7, h_M_8, h_M_9]))] ++ pgl kI AL PP) [(k_el, .object "java/lang/Object"), (k_cs, .int), (k_mp, .int), (kI, .int)] sz [.ref h_M, .int a2]) (QR_ (.int (F_L_account PP cs mp cn sn n tk av lo md hc ln a2)) (va_A [] sz)) 1 6 (va_A [] sz) := by
  refine va_MetW (cc := cL_account) (maxL := 3) (ret := (some .int)) (by decide) rfl ?_
  intro p e s m args below meth c s₁ B hml hv
  obtain ⟨rfl, hsz, hP, hK, hF⟩ := hv
  have hx := B.exec
  have hb := B.bytes
  have hr := B.returns
  have hts := atoms_spec (ws := wsL_account) B.pre
  have hown : s.vm.findClass RL = some m.cls := findClass_of_methodNamed B.named
  have hlocks := B.notSynchronized
  have htb := vx_table (x := yL_account) B (hts _ (List.mem_cons_self))
  subst hsz
  generalize hAe : va_A [] s.heap.size = A at hF ⊢
  have hA : ∀ q : Nat, s.heap.size ≤ q → A q := fun q h => by rw [← hAe]; exact Or.inr h
  obtain ⟨H, hHe⟩ : ∃ H : Heap, H = s.heap := ⟨_, rfl⟩
  have hS : va_S A s.heap H [] := by rw [hHe]; exact va_S.rf
  have hP : va_P D vwCl ([(h_el, .inl (k_el, capE, .inr (.inr (.inr (.inr (egl AL)))))), (h_li, .inr (4, [h_li_0, .ref h_el, .int (nI PP.length)])), (h_A, .inr (5, [.ref h_li, .ref (pad AL 0)])), (h_cs, .inl (k_cs, 36, .inl cs)), (h_mp, .inl (k_mp, 36, .inl mp)), (h_L, .inr (8, [h_L_0, .int cn, .int sn])), (h_S, .inr (11, [.ref h_A, h_S_1, .ref h_cs, .ref h_mp, .ref h_L, .int n, .int tk, .int av, .int lo, .int md])), (h_H, .inr (7, [h_H_0, h_H_1, .int hc])), (h_T, .inr (6, [h_T_0, .int ln, h_T_2, h_T_3, h_T_4])), (h_M, .inr (13, [.ref h_S, h_M_1, h_M_2, .ref h_H, h_M_4, .ref h_T, h_M_6, h_M_7, h_M_8, h_M_9]))] ++ pgl kI AL PP) H := by rw [hHe]; exact hP
  rw [← hHe]
  have hl := lv_entry [.ref h_M, .int a2] (n := 3) (Nat.le_of_ble_eq_true rfl)
  rw [lg_entry_eq]
  generalize (lg_sl [.ref h_M, .int a2] ++ List.replicate (3 - (lg_sl [.ref h_M, .int a2]).length) Slot.unset).toArray = ls at hl ⊢
  have hl : lv_has ls 3 [(0, .ref h_M), (1, .int a2)] := hl
  have hM : F_L_account PP cs mp cn sn n tk av lo md hc ln a2 = (if (F_X10_account PP cs mp cn sn n tk av lo md hc ln a2).1 = 0 then (F_X10_account PP cs mp cn sn n tk av lo md hc ln a2).2 else (-1001)) := rfl
  refine lv_aload_n hx hb dL_account_0 rfl (lv_at hl 0 rfl) ?_
  refine lv_iload_n hx hb dL_account_1 rfl (lv_at hl 1 rfl) ?_
  refine kzr_ (vx_runV (As := [.int a2]) (rest := []) ⟨hx, hb, hml, hown, hts⟩ (c_X10_account l hl0 D ad H.size h_el h_li h_A h_cs h_mp h_L h_S h_H h_T h_M k_el k_cs k_mp (h_li_0) (h_L_0) (h_S_1) (h_H_0) (h_H_1) (h_T_0) (h_T_2) (h_T_3) (h_T_4) (h_M_1) (h_M_2) (h_M_4) (h_M_6) (h_M_7) (h_M_8) (h_M_9) kI AL PP capE cs mp cn sn n tk av lo md hc ln a2 hlen hpos hbig (by have z0 := hy0; have z1 := hy1; have z2 := hy2; have z3 := hy4; have q_len := hlen; have q_pos := hpos; have q_big := hbig; have q_n := nI_toInt (n := PP.length) (by omega); omega) (by have z0 := hy0; have z1 := hy1; have z2 := hy2; have z3 := hy4; have q_len := hlen; have q_pos := hpos; have q_big := hbig; have q_n := nI_toInt (n := PP.length) (by omega); omega) (by have z0 := hy0; have z1 := hy1; have z2 := hy2; have z3 := hy4; have q_len := hlen; have q_pos := hpos; have q_big := hbig; have q_n := nI_toInt (n := PP.length) (by omega); omega) (by have z0 := hy0; have z1 := hy1; have z2 := hy2; have z3 := hy4; have q_len := hlen; have q_pos := hpos; have q_big := hbig; have q_n := nI_toInt (n := PP.length) (by omega); omega)) (cwV 1 hts gL_account_X10_account rfl rfl rfl (by decide +kernel) ⟨Nat.le_of_ble_eq_true rfl, Nat.le_of_ble_eq_true rfl⟩) ⟨PR_.blind, va_recv hK hP (ci := 13) (q0 := 9) rfl rfl, PR_.pre hF hK (hP.part [0, 1, 2, 3, 4, 5, 6, 7, 8, 9] rfl) hS hA [0, 1, 2, 3] rfl⟩ rfl rfl hl.1 rfl (lv_room (Nat.le_of_ble_eq_true rfl)) dL_account_2 ⟨(Nat.le_of_ble_eq_true rfl), (Nat.le_of_ble_eq_true rfl)⟩) hP hS hA (fun H locs c_2 hP hS => ?_) (fun E9 ce q9 H locs hE hP hS hce hvm hcl => ?_)
  · rw [if_pos c_2] at hM
    refine W.eq (g2 := F0 m 5 ls [.int (F_X10_account PP cs mp cn sn n tk av lo md hc ln a2).2]) rfl ?_
    refine W.widen (k := 1) (n := 6) (Nat.le_of_ble_eq_true rfl) (Nat.le_of_ble_eq_true rfl) ?_
    exact W.iret (v := (F_X10_account PP cs mp cn sn n tk av lo md hc ln a2).2) hx hb hr (QR_.mk hS (by rw [hM])) hS.2.2 dL_account_5
  · rcases hE with ⟨rfl, c_2⟩
    · rw [if_neg (show ¬ (F_X10_account PP cs mp cn sn n tk av lo md hc ln a2).1 = 0 from by rw [c_2]; decide)] at hM
      refine vx_catch (own := RL) (name := "java/lang/IllegalArgumentException") (E := "java/lang/IllegalArgumentException") hown [] (⟨0, 5, 6, 38⟩ : ExceptionTableEntry) [] (htb.trans rfl) (fun z hz => by cases hz) (by decide) (by decide) (hts (.classLink RL 38 "java/lang/IllegalArgumentException") (List.mem_of_getElem? (i := 1) (by decide +kernel))) (fxk_ hF "java/lang/IllegalArgumentException" "java/lang/IllegalArgumentException") hce hvm hcl ?_
      refine W.eq (g2 := F0 m 6 ls [.ref q9]) rfl ?_
      refine lv_astore_n (lv' := [(2, .ref q9), (0, .ref h_M), (1, .int a2)]) hx hb dL_account_6 rfl hl (by decide) rfl (fun ls hl => ?_)
      refine lv_sipush (v := (-1001)) hx hb dL_account_7 (by decide +kernel) ?_
      refine W.widen (k := 1) (n := 6) (Nat.le_of_ble_eq_true rfl) (Nat.le_of_ble_eq_true rfl) ?_
      exact W.iret (v := (-1001)) hx hb hr (QR_.mk hS (by rw [hM])) hS.2.2 dL_account_10
def F_L_distance (PP : List PG) (mp : Nat → Int32) (n : Int32) (wc : Nat → Int32) (wd : Nat → Int32) (a2 : Int32) (a3 : Int32) : Int32 × (Nat → Int32) × (Nat → Int32) := (if (F_X10_distance PP mp n wc wd a2 a3).1 = 0 then ((F_X10_distance PP mp n wc wd a2 a3).2.1, ((F_X10_distance PP mp n wc wd a2 a3).2.2.1), ((F_X10_distance PP mp n wc wd a2 a3).2.2.2)) else (if (F_X10_distance PP mp n wc wd a2 a3).1 = 2 then ((-1001), ((F_X10_distance PP mp n wc wd a2 a3).2.2.1), ((F_X10_distance PP mp n wc wd a2 a3).2.2.2)) else ((-1002), ((F_X10_distance PP mp n wc wd a2 a3).2.2.1), ((F_X10_distance PP mp n wc wd a2 a3).2.2.2))))
set_option maxHeartbeats 4000000 in
set_option maxRecDepth 100000 in
theorem c_L_distance (l : Launch) (hl0 : l.stackTraces = false) (D : va_G) (ad : Nat → Nat) (sz : Nat) (h_el : Nat) (h_li : Nat) (h_A : Nat) (h_mp : Nat) (h_S : Nat) (h_wc : Nat) (h_wd : Nat) (h_W : Nat) (h_M : Nat) (k_el : ClassId) (k_mp : ClassId) (k_wc : ClassId) (k_wd : ClassId) (h_li_0 : Value) (h_S_1 : Value) (h_S_2 : Value) (h_S_4 : Value) (h_S_6 : Value) (h_S_7 : Value) (h_S_8 : Value) (h_S_9 : Value) (h_M_1 : Value) (h_M_2 : Value) (h_M_3 : Value) (h_M_5 : Value) (h_M_6 : Value) (h_M_7 : Value) (h_M_8 : Value) (h_M_9 : Value) (kI : ClassId) (AL : List (Nat × Nat)) (PP : List PG) (capE : Nat) (mp : Nat → Int32) (n : Int32) (wc : Nat → Int32) (wd : Nat → Int32) (a2 : Int32) (a3 : Int32) (hlen : AL.length = PP.length) (hpos : 0 < PP.length) (hbig : PP.length ≤ 2000000) (hy0 : n.toInt ≤ 6) (hy1 : PP.length ≤ capE) : Met l yL_distance wsL_distance ({ frames := 8, cells := 3, slots := 18, locals := 169 }) (PC_ D ad ([(h_el, .inl (k_el, capE, .inr (.inr (.inr (.inr (egl AL)))))), (h_li, .inr (4, [h_li_0, .ref h_el, .int (nI PP.length)])), (h_A, .inr (5, [.ref h_li, .ref (pad AL 0)])), (h_mp, .inl (k_mp, 36, .inl mp)), (h_S, .inr (11, [.ref h_A, h_S_1, h_S_2, .ref h_mp, h_S_4, .int n, h_S_6, h_S_7, h_S_8, h_S_9])), (h_wc, .inl (k_wc, 36, .inl wc)), (h_wd, .inl (k_wd, 6, .inl wd)), (h_W, .inr (12, [.ref h_wc, .ref h_wd])), (h_M, .inr (13, [.ref h_S, h_M_1, h_M_2, h_M_3, .ref h_W, h_M_5, h_M_6, h_M_7, h_M_8, h_M_9]))] ++ pgl kI AL PP) [(k_el, .object "java/lang/Object"), (k_mp, .int), (k_wc, .int), (k_wd, .int), (kI, .int)] sz [.ref h_M, .int a2, .int a3]) (QG_ D (fun q i => some (.int (F_L_distance PP mp n wc wd a2 a3).1)) (fun q i => True) (fun q k i => ([(h_el, .inl (k_el, capE, .inr (.inr (.inr (.inr (egl AL)))))), (h_li, .inr (4, [h_li_0, .ref h_el, .int (nI PP.length)])), (h_A, .inr (5, [.ref h_li, .ref (pad AL 0)])), (h_mp, .inl (k_mp, 36, .inl mp)), (h_S, .inr (11, [.ref h_A, h_S_1, h_S_2, .ref h_mp, h_S_4, .int n, h_S_6, h_S_7, h_S_8, h_S_9])), (h_wc, .inl (k_wc, 36, .inl (F_L_distance PP mp n wc wd a2 a3).2.1)), (h_wd, .inl (k_wd, 6, .inl (F_L_distance PP mp n wc wd a2 a3).2.2)), (h_W, .inr (12, [.ref h_wc, .ref h_wd])), (h_M, .inr (13, [.ref h_S, h_M_1, h_M_2, h_M_3, .ref h_W, h_M_5, h_M_6, h_M_7, h_M_8, h_M_9]))] ++ pgl kI AL PP)) (fun q k i => [(k_el, .object "java/lang/Object"), (k_mp, .int), (k_wc, .int), (k_wd, .int), (kI, .int)]) (va_A ([(h_el, .inl (k_el, capE, .inr (.inr (.inr (.inr (egl AL)))))), (h_li, .inr (4, [h_li_0, .ref h_el, .int (nI PP.length)])), (h_A, .inr (5, [.ref h_li, .ref (pad AL 0)])), (h_mp, .inl (k_mp, 36, .inl mp)), (h_S, .inr (11, [.ref h_A, h_S_1, h_S_2, .ref h_mp, h_S_4, .int n, h_S_6, h_S_7, h_S_8, h_S_9])), (h_wc, .inl (k_wc, 36, .inl wc)), (h_wd, .inl (k_wd, 6, .inl wd)), (h_W, .inr (12, [.ref h_wc, .ref h_wd])), (h_M, .inr (13, [.ref h_S, h_M_1, h_M_2, h_M_3, .ref h_W, h_M_5, h_M_6, h_M_7, h_M_8, h_M_9]))] ++ pgl kI AL PP) sz)) 3 18 (va_A ([(h_el, .inl (k_el, capE, .inr (.inr (.inr (.inr (egl AL)))))), (h_li, .inr (4, [h_li_0, .ref h_el, .int (nI PP.length)])), (h_A, .inr (5, [.ref h_li, .ref (pad AL 0)])), (h_mp, .inl (k_mp, 36, .inl mp)), (h_S, .inr (11, [.ref h_A, h_S_1, h_S_2, .ref h_mp, h_S_4, .int n, h_S_6, h_S_7, h_S_8, h_S_9])), (h_wc, .inl (k_wc, 36, .inl wc)), (h_wd, .inl (k_wd, 6, .inl wd)), (h_W, .inr (12, [.ref h_wc, .ref h_wd])), (h_M, .inr (13, [.ref h_S, h_M_1, h_M_2, h_M_3, .ref h_W, h_M_5, h_M_6, h_M_7, h_M_8, h_M_9]))] ++ pgl kI AL PP) sz) := by
  refine va_MetW (cc := cL_distance) (maxL := 4) (ret := (some .int)) (by decide) rfl ?_
  intro p e s m args below meth c s₁ B hml hv
  obtain ⟨rfl, hsz, hP, hK, hD0, hF⟩ := hv
  have hx := B.exec
  have hb := B.bytes
  have hr := B.returns
  have hts := atoms_spec (ws := wsL_distance) B.pre
  have hown : s.vm.findClass RL = some m.cls := findClass_of_methodNamed B.named
  have hlocks := B.notSynchronized
  have htb := vx_table (x := yL_distance) B (hts _ (List.mem_cons_self))
  subst hsz
  have hD := hD0.self (sz := s.heap.size)
  generalize hAe : va_A ([(h_el, .inl (k_el, capE, .inr (.inr (.inr (.inr (egl AL)))))), (h_li, .inr (4, [h_li_0, .ref h_el, .int (nI PP.length)])), (h_A, .inr (5, [.ref h_li, .ref (pad AL 0)])), (h_mp, .inl (k_mp, 36, .inl mp)), (h_S, .inr (11, [.ref h_A, h_S_1, h_S_2, .ref h_mp, h_S_4, .int n, h_S_6, h_S_7, h_S_8, h_S_9])), (h_wc, .inl (k_wc, 36, .inl wc)), (h_wd, .inl (k_wd, 6, .inl wd)), (h_W, .inr (12, [.ref h_wc, .ref h_wd])), (h_M, .inr (13, [.ref h_S, h_M_1, h_M_2, h_M_3, .ref h_W, h_M_5, h_M_6, h_M_7, h_M_8, h_M_9]))] ++ pgl kI AL PP) s.heap.size = A at hD hF ⊢
  have hA : ∀ q : Nat, s.heap.size ≤ q → A q := fun q h => by rw [← hAe]; exact Or.inr h
  obtain ⟨H, hHe⟩ : ∃ H : Heap, H = s.heap := ⟨_, rfl⟩
  have hS : va_S A s.heap H [] := by rw [hHe]; exact va_S.rf
  have hP : va_P D vwCl ([(h_el, .inl (k_el, capE, .inr (.inr (.inr (.inr (egl AL)))))), (h_li, .inr (4, [h_li_0, .ref h_el, .int (nI PP.length)])), (h_A, .inr (5, [.ref h_li, .ref (pad AL 0)])), (h_mp, .inl (k_mp, 36, .inl mp)), (h_S, .inr (11, [.ref h_A, h_S_1, h_S_2, .ref h_mp, h_S_4, .int n, h_S_6, h_S_7, h_S_8, h_S_9])), (h_wc, .inl (k_wc, 36, .inl wc)), (h_wd, .inl (k_wd, 6, .inl wd)), (h_W, .inr (12, [.ref h_wc, .ref h_wd])), (h_M, .inr (13, [.ref h_S, h_M_1, h_M_2, h_M_3, .ref h_W, h_M_5, h_M_6, h_M_7, h_M_8, h_M_9]))] ++ pgl kI AL PP) H := by rw [hHe]; exact hP
  rw [← hHe]
  have hl := lv_entry [.ref h_M, .int a2, .int a3] (n := 4) (Nat.le_of_ble_eq_true rfl)
  rw [lg_entry_eq]
  generalize (lg_sl [.ref h_M, .int a2, .int a3] ++ List.replicate (4 - (lg_sl [.ref h_M, .int a2, .int a3]).length) Slot.unset).toArray = ls at hl ⊢
  have hl : lv_has ls 4 [(0, .ref h_M), (1, .int a2), (2, .int a3)] := hl
  have hM : F_L_distance PP mp n wc wd a2 a3 = (if (F_X10_distance PP mp n wc wd a2 a3).1 = 0 then ((F_X10_distance PP mp n wc wd a2 a3).2.1, ((F_X10_distance PP mp n wc wd a2 a3).2.2.1), ((F_X10_distance PP mp n wc wd a2 a3).2.2.2)) else (if (F_X10_distance PP mp n wc wd a2 a3).1 = 2 then ((-1001), ((F_X10_distance PP mp n wc wd a2 a3).2.2.1), ((F_X10_distance PP mp n wc wd a2 a3).2.2.2)) else ((-1002), ((F_X10_distance PP mp n wc wd a2 a3).2.2.1), ((F_X10_distance PP mp n wc wd a2 a3).2.2.2)))) := rfl
  refine lv_aload_n hx hb dL_distance_0 rfl (lv_at hl 0 rfl) ?_
  refine lv_iload_n hx hb dL_distance_1 rfl (lv_at hl 1 rfl) ?_
  refine lv_iload_n hx hb dL_distance_2 rfl (lv_at hl 2 rfl) ?_
  refine kz_ (wc := ([(h_el, .inl (k_el, capE, .inr (.inr (.inr (.inr (egl AL)))))), (h_li, .inr (4, [h_li_0, .ref h_el, .int (nI PP.length)])), (h_A, .inr (5, [.ref h_li, .ref (pad AL 0)])), (h_mp, .inl (k_mp, 36, .inl mp)), (h_S, .inr (11, [.ref h_A, h_S_1, h_S_2, .ref h_mp, h_S_4, .int n, h_S_6, h_S_7, h_S_8, h_S_9])), (h_wc, .inl (k_wc, 36, .inl wc)), (h_wd, .inl (k_wd, 6, .inl wd)), (h_W, .inr (12, [.ref h_wc, .ref h_wd])), (h_M, .inr (13, [.ref h_S, h_M_1, h_M_2, h_M_3, .ref h_W, h_M_5, h_M_6, h_M_7, h_M_8, h_M_9]))] ++ pgl kI AL PP)) (wr := []) (vx_runV (As := [.int a2, .int a3]) (rest := []) ⟨hx, hb, hml, hown, hts⟩ (c_X10_distance l hl0 D ad H.size h_el h_li h_A h_mp h_S h_wc h_wd h_W h_M k_el k_mp k_wc k_wd (h_li_0) (h_S_1) (h_S_2) (h_S_4) (h_S_6) (h_S_7) (h_S_8) (h_S_9) (h_M_1) (h_M_2) (h_M_3) (h_M_5) (h_M_6) (h_M_7) (h_M_8) (h_M_9) kI AL PP capE mp n wc wd a2 a3 hlen hpos hbig (by have z0 := hy0; have z1 := hy1; have q_len := hlen; have q_pos := hpos; have q_big := hbig; have q_n := nI_toInt (n := PP.length) (by omega); omega) (by have z0 := hy0; have z1 := hy1; have q_len := hlen; have q_pos := hpos; have q_big := hbig; have q_n := nI_toInt (n := PP.length) (by omega); omega)) (cwV 2 hts gL_distance_X10_distance rfl rfl rfl (by decide +kernel) ⟨Nat.le_of_ble_eq_true rfl, Nat.le_of_ble_eq_true rfl⟩) ⟨PC_.blind, va_recv hK hP (ci := 13) (q0 := 8) rfl rfl, PC_.pre hF hK hP hD hS hA ([0, 1, 2, 3, 4, 5, 6, 7, 8] ++ (tl_ 9 (pgl kI AL PP))) [0, 1, 2, 3, 4] (tl_C [0, 1, 2, 3, 4, 5, 6, 7, 8] rfl rfl) (tl_nd [0, 1, 2, 3, 4, 5, 6, 7, 8] (by decide) (by decide)) rfl⟩ rfl rfl hl.1 rfl (lv_room (Nat.le_of_ble_eq_true rfl)) dL_distance_3 ⟨(Nat.le_of_ble_eq_true rfl), (Nat.le_of_ble_eq_true rfl)⟩) hK hP hD hS hA ([0, 1, 2, 3, 4, 5, 6, 7, 8] ++ (tl_ 9 (pgl kI AL PP))) [] [] (tl_C [0, 1, 2, 3, 4, 5, 6, 7, 8] rfl rfl) rfl (by decide) (tl_dis [] [0, 1, 2, 3, 4, 5, 6, 7, 8] (by decide) (by decide)) rfl (fun qa_1 ka_1 ia H locs c_2 hP hD hK hS => ?_) (fun E9 ce q9 qa_1 ka_1 ia H locs hE hP hD hK hS hce hvm hcl => ?_)
  · rw [if_pos c_2] at hM
    have hP : va_P D vwCl ([(h_el, .inl (k_el, capE, .inr (.inr (.inr (.inr (egl AL)))))), (h_li, .inr (4, [h_li_0, .ref h_el, .int (nI PP.length)])), (h_A, .inr (5, [.ref h_li, .ref (pad AL 0)])), (h_mp, .inl (k_mp, 36, .inl mp)), (h_S, .inr (11, [.ref h_A, h_S_1, h_S_2, .ref h_mp, h_S_4, .int n, h_S_6, h_S_7, h_S_8, h_S_9])), (h_wc, .inl (k_wc, 36, .inl (F_X10_distance PP mp n wc wd a2 a3).2.2.1)), (h_wd, .inl (k_wd, 6, .inl (F_X10_distance PP mp n wc wd a2 a3).2.2.2)), (h_W, .inr (12, [.ref h_wc, .ref h_wd])), (h_M, .inr (13, [.ref h_S, h_M_1, h_M_2, h_M_3, .ref h_W, h_M_5, h_M_6, h_M_7, h_M_8, h_M_9]))] ++ pgl kI AL PP) H := hP
    have hD : va_D A ([(h_el, .inl (k_el, capE, .inr (.inr (.inr (.inr (egl AL)))))), (h_li, .inr (4, [h_li_0, .ref h_el, .int (nI PP.length)])), (h_A, .inr (5, [.ref h_li, .ref (pad AL 0)])), (h_mp, .inl (k_mp, 36, .inl mp)), (h_S, .inr (11, [.ref h_A, h_S_1, h_S_2, .ref h_mp, h_S_4, .int n, h_S_6, h_S_7, h_S_8, h_S_9])), (h_wc, .inl (k_wc, 36, .inl (F_X10_distance PP mp n wc wd a2 a3).2.2.1)), (h_wd, .inl (k_wd, 6, .inl (F_X10_distance PP mp n wc wd a2 a3).2.2.2)), (h_W, .inr (12, [.ref h_wc, .ref h_wd])), (h_M, .inr (13, [.ref h_S, h_M_1, h_M_2, h_M_3, .ref h_W, h_M_5, h_M_6, h_M_7, h_M_8, h_M_9]))] ++ pgl kI AL PP) := hD
    have hK : va_K D vwCl [(k_el, .object "java/lang/Object"), (k_mp, .int), (k_wc, .int), (k_wd, .int), (kI, .int)] s := hK
    refine W.eq (g2 := F0 m 6 ls [.int (F_X10_distance PP mp n wc wd a2 a3).2.1]) rfl ?_
    refine W.widen (k := 3) (n := 18) (Nat.le_of_ble_eq_true rfl) (Nat.le_of_ble_eq_true rfl) ?_
    exact W.iret (v := (F_X10_distance PP mp n wc wd a2 a3).2.1) hx hb hr (QG_.mk (fun _ => 0) (fun _ => 0) (fun _ => 0) ([0, 1, 2, 3, 4, 5, 6, 7, 8] ++ (tl_ 9 (pgl kI AL PP))) [0, 1, 2, 3, 4] hP hD hK hS (by rw [hM]) trivial (by rw [hM]; exact tl_C [0, 1, 2, 3, 4, 5, 6, 7, 8] rfl rfl) (tl_nd [0, 1, 2, 3, 4, 5, 6, 7, 8] (by decide) (by decide)) rfl) hS.2.2 dL_distance_6
  · rcases hE with ⟨rfl, c_2⟩ | ⟨rfl, c_2⟩
    · have hP : va_P D vwCl ([(h_el, .inl (k_el, capE, .inr (.inr (.inr (.inr (egl AL)))))), (h_li, .inr (4, [h_li_0, .ref h_el, .int (nI PP.length)])), (h_A, .inr (5, [.ref h_li, .ref (pad AL 0)])), (h_mp, .inl (k_mp, 36, .inl mp)), (h_S, .inr (11, [.ref h_A, h_S_1, h_S_2, .ref h_mp, h_S_4, .int n, h_S_6, h_S_7, h_S_8, h_S_9])), (h_wc, .inl (k_wc, 36, .inl (F_X10_distance PP mp n wc wd a2 a3).2.2.1)), (h_wd, .inl (k_wd, 6, .inl (F_X10_distance PP mp n wc wd a2 a3).2.2.2)), (h_W, .inr (12, [.ref h_wc, .ref h_wd])), (h_M, .inr (13, [.ref h_S, h_M_1, h_M_2, h_M_3, .ref h_W, h_M_5, h_M_6, h_M_7, h_M_8, h_M_9]))] ++ pgl kI AL PP) H := hP
      have hD : va_D A ([(h_el, .inl (k_el, capE, .inr (.inr (.inr (.inr (egl AL)))))), (h_li, .inr (4, [h_li_0, .ref h_el, .int (nI PP.length)])), (h_A, .inr (5, [.ref h_li, .ref (pad AL 0)])), (h_mp, .inl (k_mp, 36, .inl mp)), (h_S, .inr (11, [.ref h_A, h_S_1, h_S_2, .ref h_mp, h_S_4, .int n, h_S_6, h_S_7, h_S_8, h_S_9])), (h_wc, .inl (k_wc, 36, .inl (F_X10_distance PP mp n wc wd a2 a3).2.2.1)), (h_wd, .inl (k_wd, 6, .inl (F_X10_distance PP mp n wc wd a2 a3).2.2.2)), (h_W, .inr (12, [.ref h_wc, .ref h_wd])), (h_M, .inr (13, [.ref h_S, h_M_1, h_M_2, h_M_3, .ref h_W, h_M_5, h_M_6, h_M_7, h_M_8, h_M_9]))] ++ pgl kI AL PP) := hD
      have hK : va_K D vwCl [(k_el, .object "java/lang/Object"), (k_mp, .int), (k_wc, .int), (k_wd, .int), (kI, .int)] s := hK
      rw [if_neg (show ¬ (F_X10_distance PP mp n wc wd a2 a3).1 = 0 from by rw [c_2]; decide)] at hM
      rw [if_pos c_2] at hM
      refine vx_catch (own := RL) (name := "java/lang/IndexOutOfBoundsException") (E := "java/lang/IndexOutOfBoundsException") hown [] (⟨0, 6, 7, 36⟩ : ExceptionTableEntry) [(⟨0, 6, 12, 43⟩ : ExceptionTableEntry)] (htb.trans rfl) (fun z hz => by cases hz) (by decide) (by decide) (hts (.classLink RL 36 "java/lang/IndexOutOfBoundsException") (List.mem_of_getElem? (i := 1) (by decide +kernel))) (fxk_ hF "java/lang/IndexOutOfBoundsException" "java/lang/IndexOutOfBoundsException") hce hvm hcl ?_
      refine W.eq (g2 := F0 m 7 ls [.ref q9]) rfl ?_
      refine lv_astore_n (lv' := [(3, .ref q9), (0, .ref h_M), (1, .int a2), (2, .int a3)]) hx hb dL_distance_7 rfl hl (by decide) rfl (fun ls hl => ?_)
      refine lv_sipush (v := (-1001)) hx hb dL_distance_8 (by decide +kernel) ?_
      refine W.widen (k := 3) (n := 18) (Nat.le_of_ble_eq_true rfl) (Nat.le_of_ble_eq_true rfl) ?_
      exact W.iret (v := (-1001)) hx hb hr (QG_.mk (fun _ => 0) (fun _ => 0) (fun _ => 0) ([0, 1, 2, 3, 4, 5, 6, 7, 8] ++ (tl_ 9 (pgl kI AL PP))) [0, 1, 2, 3, 4] hP hD hK hS (by rw [hM]) trivial (by rw [hM]; exact tl_C [0, 1, 2, 3, 4, 5, 6, 7, 8] rfl rfl) (tl_nd [0, 1, 2, 3, 4, 5, 6, 7, 8] (by decide) (by decide)) rfl) hS.2.2 dL_distance_11
    · have hP : va_P D vwCl ([(h_el, .inl (k_el, capE, .inr (.inr (.inr (.inr (egl AL)))))), (h_li, .inr (4, [h_li_0, .ref h_el, .int (nI PP.length)])), (h_A, .inr (5, [.ref h_li, .ref (pad AL 0)])), (h_mp, .inl (k_mp, 36, .inl mp)), (h_S, .inr (11, [.ref h_A, h_S_1, h_S_2, .ref h_mp, h_S_4, .int n, h_S_6, h_S_7, h_S_8, h_S_9])), (h_wc, .inl (k_wc, 36, .inl (F_X10_distance PP mp n wc wd a2 a3).2.2.1)), (h_wd, .inl (k_wd, 6, .inl (F_X10_distance PP mp n wc wd a2 a3).2.2.2)), (h_W, .inr (12, [.ref h_wc, .ref h_wd])), (h_M, .inr (13, [.ref h_S, h_M_1, h_M_2, h_M_3, .ref h_W, h_M_5, h_M_6, h_M_7, h_M_8, h_M_9]))] ++ pgl kI AL PP) H := hP
      have hD : va_D A ([(h_el, .inl (k_el, capE, .inr (.inr (.inr (.inr (egl AL)))))), (h_li, .inr (4, [h_li_0, .ref h_el, .int (nI PP.length)])), (h_A, .inr (5, [.ref h_li, .ref (pad AL 0)])), (h_mp, .inl (k_mp, 36, .inl mp)), (h_S, .inr (11, [.ref h_A, h_S_1, h_S_2, .ref h_mp, h_S_4, .int n, h_S_6, h_S_7, h_S_8, h_S_9])), (h_wc, .inl (k_wc, 36, .inl (F_X10_distance PP mp n wc wd a2 a3).2.2.1)), (h_wd, .inl (k_wd, 6, .inl (F_X10_distance PP mp n wc wd a2 a3).2.2.2)), (h_W, .inr (12, [.ref h_wc, .ref h_wd])), (h_M, .inr (13, [.ref h_S, h_M_1, h_M_2, h_M_3, .ref h_W, h_M_5, h_M_6, h_M_7, h_M_8, h_M_9]))] ++ pgl kI AL PP) := hD
      have hK : va_K D vwCl [(k_el, .object "java/lang/Object"), (k_mp, .int), (k_wc, .int), (k_wd, .int), (kI, .int)] s := hK
      rw [if_neg (show ¬ (F_X10_distance PP mp n wc wd a2 a3).1 = 0 from by rw [c_2]; decide)] at hM
      rw [if_neg (show ¬ (F_X10_distance PP mp n wc wd a2 a3).1 = 2 from by rw [c_2]; decide)] at hM
      refine vx_catch (own := RL) (name := "java/util/NoSuchElementException") (E := "java/util/NoSuchElementException") hown [(⟨0, 6, 7, 36⟩ : ExceptionTableEntry)] (⟨0, 6, 12, 43⟩ : ExceptionTableEntry) [] (htb.trans rfl) (List.forall_mem_cons.mpr ⟨(Or.inr ⟨by decide, "java/lang/IndexOutOfBoundsException", (hts (.classLink RL 36 "java/lang/IndexOutOfBoundsException") (List.mem_of_getElem? (i := 1) (by decide +kernel))), fxd_ hF "java/util/NoSuchElementException" "java/lang/IndexOutOfBoundsException"⟩), (fun z hz => absurd hz List.not_mem_nil)⟩) (by decide) (by decide) (fxl_ hF (43, "java/util/NoSuchElementException")) (fxk_ hF "java/util/NoSuchElementException" "java/util/NoSuchElementException") hce hvm hcl ?_
      refine W.eq (g2 := F0 m 12 ls [.ref q9]) rfl ?_
      refine lv_astore_n (lv' := [(3, .ref q9), (0, .ref h_M), (1, .int a2), (2, .int a3)]) hx hb dL_distance_12 rfl hl (by decide) rfl (fun ls hl => ?_)
      refine lv_sipush (v := (-1002)) hx hb dL_distance_13 (by decide +kernel) ?_
      refine W.widen (k := 3) (n := 18) (Nat.le_of_ble_eq_true rfl) (Nat.le_of_ble_eq_true rfl) ?_
      exact W.iret (v := (-1002)) hx hb hr (QG_.mk (fun _ => 0) (fun _ => 0) (fun _ => 0) ([0, 1, 2, 3, 4, 5, 6, 7, 8] ++ (tl_ 9 (pgl kI AL PP))) [0, 1, 2, 3, 4] hP hD hK hS (by rw [hM]) trivial (by rw [hM]; exact tl_C [0, 1, 2, 3, 4, 5, 6, 7, 8] rfl rfl) (tl_nd [0, 1, 2, 3, 4, 5, 6, 7, 8] (by decide) (by decide)) rfl) hS.2.2 dL_distance_16
def F_L_distanceAgain (PP : List PG) (mp : Nat → Int32) (n : Int32) (wc : Nat → Int32) (wd : Nat → Int32) (a2 : Int32) (a3 : Int32) : Int32 × (Nat → Int32) × (Nat → Int32) := (if (F_X10_distanceAgain PP mp n wc wd a2 a3).1 = 0 then ((F_X10_distanceAgain PP mp n wc wd a2 a3).2.1, ((F_X10_distanceAgain PP mp n wc wd a2 a3).2.2.1), ((F_X10_distanceAgain PP mp n wc wd a2 a3).2.2.2)) else (if (F_X10_distanceAgain PP mp n wc wd a2 a3).1 = 2 then ((-1001), ((F_X10_distanceAgain PP mp n wc wd a2 a3).2.2.1), ((F_X10_distanceAgain PP mp n wc wd a2 a3).2.2.2)) else ((-1002), ((F_X10_distanceAgain PP mp n wc wd a2 a3).2.2.1), ((F_X10_distanceAgain PP mp n wc wd a2 a3).2.2.2))))
set_option maxHeartbeats 4000000 in
set_option maxRecDepth 100000 in
theorem c_L_distanceAgain (l : Launch) (hl0 : l.stackTraces = false) (D : va_G) (ad : Nat → Nat) (sz : Nat) (h_el : Nat) (h_li : Nat) (h_A : Nat) (h_mp : Nat) (h_S : Nat) (h_wc : Nat) (h_wd : Nat) (h_W : Nat) (h_M : Nat) (k_el : ClassId) (k_mp : ClassId) (k_wc : ClassId) (k_wd : ClassId) (h_li_0 : Value) (h_S_1 : Value) (h_S_2 : Value) (h_S_4 : Value) (h_S_6 : Value) (h_S_7 : Value) (h_S_8 : Value) (h_S_9 : Value) (h_M_1 : Value) (h_M_2 : Value) (h_M_3 : Value) (h_M_5 : Value) (h_M_6 : Value) (h_M_7 : Value) (h_M_8 : Value) (h_M_9 : Value) (kI : ClassId) (AL : List (Nat × Nat)) (PP : List PG) (capE : Nat) (mp : Nat → Int32) (n : Int32) (wc : Nat → Int32) (wd : Nat → Int32) (a2 : Int32) (a3 : Int32) (hlen : AL.length = PP.length) (hpos : 0 < PP.length) (hbig : PP.length ≤ 2000000) (hy0 : n.toInt ≤ 6) (hy1 : PP.length ≤ capE) : Met l yL_distanceAgain wsL_distanceAgain ({ frames := 8, cells := 3, slots := 18, locals := 169 }) (PC_ D ad ([(h_el, .inl (k_el, capE, .inr (.inr (.inr (.inr (egl AL)))))), (h_li, .inr (4, [h_li_0, .ref h_el, .int (nI PP.length)])), (h_A, .inr (5, [.ref h_li, .ref (pad AL 0)])), (h_mp, .inl (k_mp, 36, .inl mp)), (h_S, .inr (11, [.ref h_A, h_S_1, h_S_2, .ref h_mp, h_S_4, .int n, h_S_6, h_S_7, h_S_8, h_S_9])), (h_wc, .inl (k_wc, 36, .inl wc)), (h_wd, .inl (k_wd, 6, .inl wd)), (h_W, .inr (12, [.ref h_wc, .ref h_wd])), (h_M, .inr (13, [.ref h_S, h_M_1, h_M_2, h_M_3, .ref h_W, h_M_5, h_M_6, h_M_7, h_M_8, h_M_9]))] ++ pgl kI AL PP) [(k_el, .object "java/lang/Object"), (k_mp, .int), (k_wc, .int), (k_wd, .int), (kI, .int)] sz [.ref h_M, .int a2, .int a3]) (QG_ D (fun q i => some (.int (F_L_distanceAgain PP mp n wc wd a2 a3).1)) (fun q i => True) (fun q k i => ([(h_el, .inl (k_el, capE, .inr (.inr (.inr (.inr (egl AL)))))), (h_li, .inr (4, [h_li_0, .ref h_el, .int (nI PP.length)])), (h_A, .inr (5, [.ref h_li, .ref (pad AL 0)])), (h_mp, .inl (k_mp, 36, .inl mp)), (h_S, .inr (11, [.ref h_A, h_S_1, h_S_2, .ref h_mp, h_S_4, .int n, h_S_6, h_S_7, h_S_8, h_S_9])), (h_wc, .inl (k_wc, 36, .inl (F_L_distanceAgain PP mp n wc wd a2 a3).2.1)), (h_wd, .inl (k_wd, 6, .inl (F_L_distanceAgain PP mp n wc wd a2 a3).2.2)), (h_W, .inr (12, [.ref h_wc, .ref h_wd])), (h_M, .inr (13, [.ref h_S, h_M_1, h_M_2, h_M_3, .ref h_W, h_M_5, h_M_6, h_M_7, h_M_8, h_M_9]))] ++ pgl kI AL PP)) (fun q k i => [(k_el, .object "java/lang/Object"), (k_mp, .int), (k_wc, .int), (k_wd, .int), (kI, .int)]) (va_A ([(h_el, .inl (k_el, capE, .inr (.inr (.inr (.inr (egl AL)))))), (h_li, .inr (4, [h_li_0, .ref h_el, .int (nI PP.length)])), (h_A, .inr (5, [.ref h_li, .ref (pad AL 0)])), (h_mp, .inl (k_mp, 36, .inl mp)), (h_S, .inr (11, [.ref h_A, h_S_1, h_S_2, .ref h_mp, h_S_4, .int n, h_S_6, h_S_7, h_S_8, h_S_9])), (h_wc, .inl (k_wc, 36, .inl wc)), (h_wd, .inl (k_wd, 6, .inl wd)), (h_W, .inr (12, [.ref h_wc, .ref h_wd])), (h_M, .inr (13, [.ref h_S, h_M_1, h_M_2, h_M_3, .ref h_W, h_M_5, h_M_6, h_M_7, h_M_8, h_M_9]))] ++ pgl kI AL PP) sz)) 3 18 (va_A ([(h_el, .inl (k_el, capE, .inr (.inr (.inr (.inr (egl AL)))))), (h_li, .inr (4, [h_li_0, .ref h_el, .int (nI PP.length)])), (h_A, .inr (5, [.ref h_li, .ref (pad AL 0)])), (h_mp, .inl (k_mp, 36, .inl mp)), (h_S, .inr (11, [.ref h_A, h_S_1, h_S_2, .ref h_mp, h_S_4, .int n, h_S_6, h_S_7, h_S_8, h_S_9])), (h_wc, .inl (k_wc, 36, .inl wc)), (h_wd, .inl (k_wd, 6, .inl wd)), (h_W, .inr (12, [.ref h_wc, .ref h_wd])), (h_M, .inr (13, [.ref h_S, h_M_1, h_M_2, h_M_3, .ref h_W, h_M_5, h_M_6, h_M_7, h_M_8, h_M_9]))] ++ pgl kI AL PP) sz) := by
  refine va_MetW (cc := cL_distanceAgain) (maxL := 4) (ret := (some .int)) (by decide) rfl ?_
  intro p e s m args below meth c s₁ B hml hv
  obtain ⟨rfl, hsz, hP, hK, hD0, hF⟩ := hv
  have hx := B.exec
  have hb := B.bytes
  have hr := B.returns
  have hts := atoms_spec (ws := wsL_distanceAgain) B.pre
  have hown : s.vm.findClass RL = some m.cls := findClass_of_methodNamed B.named
  have hlocks := B.notSynchronized
  have htb := vx_table (x := yL_distanceAgain) B (hts _ (List.mem_cons_self))
  subst hsz
  have hD := hD0.self (sz := s.heap.size)
  generalize hAe : va_A ([(h_el, .inl (k_el, capE, .inr (.inr (.inr (.inr (egl AL)))))), (h_li, .inr (4, [h_li_0, .ref h_el, .int (nI PP.length)])), (h_A, .inr (5, [.ref h_li, .ref (pad AL 0)])), (h_mp, .inl (k_mp, 36, .inl mp)), (h_S, .inr (11, [.ref h_A, h_S_1, h_S_2, .ref h_mp, h_S_4, .int n, h_S_6, h_S_7, h_S_8, h_S_9])), (h_wc, .inl (k_wc, 36, .inl wc)), (h_wd, .inl (k_wd, 6, .inl wd)), (h_W, .inr (12, [.ref h_wc, .ref h_wd])), (h_M, .inr (13, [.ref h_S, h_M_1, h_M_2, h_M_3, .ref h_W, h_M_5, h_M_6, h_M_7, h_M_8, h_M_9]))] ++ pgl kI AL PP) s.heap.size = A at hD hF ⊢
  have hA : ∀ q : Nat, s.heap.size ≤ q → A q := fun q h => by rw [← hAe]; exact Or.inr h
  obtain ⟨H, hHe⟩ : ∃ H : Heap, H = s.heap := ⟨_, rfl⟩
  have hS : va_S A s.heap H [] := by rw [hHe]; exact va_S.rf
  have hP : va_P D vwCl ([(h_el, .inl (k_el, capE, .inr (.inr (.inr (.inr (egl AL)))))), (h_li, .inr (4, [h_li_0, .ref h_el, .int (nI PP.length)])), (h_A, .inr (5, [.ref h_li, .ref (pad AL 0)])), (h_mp, .inl (k_mp, 36, .inl mp)), (h_S, .inr (11, [.ref h_A, h_S_1, h_S_2, .ref h_mp, h_S_4, .int n, h_S_6, h_S_7, h_S_8, h_S_9])), (h_wc, .inl (k_wc, 36, .inl wc)), (h_wd, .inl (k_wd, 6, .inl wd)), (h_W, .inr (12, [.ref h_wc, .ref h_wd])), (h_M, .inr (13, [.ref h_S, h_M_1, h_M_2, h_M_3, .ref h_W, h_M_5, h_M_6, h_M_7, h_M_8, h_M_9]))] ++ pgl kI AL PP) H := by rw [hHe]; exact hP
  rw [← hHe]
  have hl := lv_entry [.ref h_M, .int a2, .int a3] (n := 4) (Nat.le_of_ble_eq_true rfl)
  rw [lg_entry_eq]
  generalize (lg_sl [.ref h_M, .int a2, .int a3] ++ List.replicate (4 - (lg_sl [.ref h_M, .int a2, .int a3]).length) Slot.unset).toArray = ls at hl ⊢
  have hl : lv_has ls 4 [(0, .ref h_M), (1, .int a2), (2, .int a3)] := hl
  have hM : F_L_distanceAgain PP mp n wc wd a2 a3 = (if (F_X10_distanceAgain PP mp n wc wd a2 a3).1 = 0 then ((F_X10_distanceAgain PP mp n wc wd a2 a3).2.1, ((F_X10_distanceAgain PP mp n wc wd a2 a3).2.2.1), ((F_X10_distanceAgain PP mp n wc wd a2 a3).2.2.2)) else (if (F_X10_distanceAgain PP mp n wc wd a2 a3).1 = 2 then ((-1001), ((F_X10_distanceAgain PP mp n wc wd a2 a3).2.2.1), ((F_X10_distanceAgain PP mp n wc wd a2 a3).2.2.2)) else ((-1002), ((F_X10_distanceAgain PP mp n wc wd a2 a3).2.2.1), ((F_X10_distanceAgain PP mp n wc wd a2 a3).2.2.2)))) := rfl
  refine lv_aload_n hx hb dL_distanceAgain_0 rfl (lv_at hl 0 rfl) ?_
  refine lv_iload_n hx hb dL_distanceAgain_1 rfl (lv_at hl 1 rfl) ?_
  refine lv_iload_n hx hb dL_distanceAgain_2 rfl (lv_at hl 2 rfl) ?_
  refine kz_ (wc := ([(h_el, .inl (k_el, capE, .inr (.inr (.inr (.inr (egl AL)))))), (h_li, .inr (4, [h_li_0, .ref h_el, .int (nI PP.length)])), (h_A, .inr (5, [.ref h_li, .ref (pad AL 0)])), (h_mp, .inl (k_mp, 36, .inl mp)), (h_S, .inr (11, [.ref h_A, h_S_1, h_S_2, .ref h_mp, h_S_4, .int n, h_S_6, h_S_7, h_S_8, h_S_9])), (h_wc, .inl (k_wc, 36, .inl wc)), (h_wd, .inl (k_wd, 6, .inl wd)), (h_W, .inr (12, [.ref h_wc, .ref h_wd])), (h_M, .inr (13, [.ref h_S, h_M_1, h_M_2, h_M_3, .ref h_W, h_M_5, h_M_6, h_M_7, h_M_8, h_M_9]))] ++ pgl kI AL PP)) (wr := []) (vx_runV (As := [.int a2, .int a3]) (rest := []) ⟨hx, hb, hml, hown, hts⟩ (c_X10_distanceAgain l hl0 D ad H.size h_el h_li h_A h_mp h_S h_wc h_wd h_W h_M k_el k_mp k_wc k_wd (h_li_0) (h_S_1) (h_S_2) (h_S_4) (h_S_6) (h_S_7) (h_S_8) (h_S_9) (h_M_1) (h_M_2) (h_M_3) (h_M_5) (h_M_6) (h_M_7) (h_M_8) (h_M_9) kI AL PP capE mp n wc wd a2 a3 hlen hpos hbig (by have z0 := hy0; have z1 := hy1; have q_len := hlen; have q_pos := hpos; have q_big := hbig; have q_n := nI_toInt (n := PP.length) (by omega); omega) (by have z0 := hy0; have z1 := hy1; have q_len := hlen; have q_pos := hpos; have q_big := hbig; have q_n := nI_toInt (n := PP.length) (by omega); omega)) (cwV 2 hts gL_distanceAgain_X10_distanceAgain rfl rfl rfl (by decide +kernel) ⟨Nat.le_of_ble_eq_true rfl, Nat.le_of_ble_eq_true rfl⟩) ⟨PC_.blind, va_recv hK hP (ci := 13) (q0 := 8) rfl rfl, PC_.pre hF hK hP hD hS hA ([0, 1, 2, 3, 4, 5, 6, 7, 8] ++ (tl_ 9 (pgl kI AL PP))) [0, 1, 2, 3, 4] (tl_C [0, 1, 2, 3, 4, 5, 6, 7, 8] rfl rfl) (tl_nd [0, 1, 2, 3, 4, 5, 6, 7, 8] (by decide) (by decide)) rfl⟩ rfl rfl hl.1 rfl (lv_room (Nat.le_of_ble_eq_true rfl)) dL_distanceAgain_3 ⟨(Nat.le_of_ble_eq_true rfl), (Nat.le_of_ble_eq_true rfl)⟩) hK hP hD hS hA ([0, 1, 2, 3, 4, 5, 6, 7, 8] ++ (tl_ 9 (pgl kI AL PP))) [] [] (tl_C [0, 1, 2, 3, 4, 5, 6, 7, 8] rfl rfl) rfl (by decide) (tl_dis [] [0, 1, 2, 3, 4, 5, 6, 7, 8] (by decide) (by decide)) rfl (fun qa_1 ka_1 ia H locs c_2 hP hD hK hS => ?_) (fun E9 ce q9 qa_1 ka_1 ia H locs hE hP hD hK hS hce hvm hcl => ?_)
  · rw [if_pos c_2] at hM
    have hP : va_P D vwCl ([(h_el, .inl (k_el, capE, .inr (.inr (.inr (.inr (egl AL)))))), (h_li, .inr (4, [h_li_0, .ref h_el, .int (nI PP.length)])), (h_A, .inr (5, [.ref h_li, .ref (pad AL 0)])), (h_mp, .inl (k_mp, 36, .inl mp)), (h_S, .inr (11, [.ref h_A, h_S_1, h_S_2, .ref h_mp, h_S_4, .int n, h_S_6, h_S_7, h_S_8, h_S_9])), (h_wc, .inl (k_wc, 36, .inl (F_X10_distanceAgain PP mp n wc wd a2 a3).2.2.1)), (h_wd, .inl (k_wd, 6, .inl (F_X10_distanceAgain PP mp n wc wd a2 a3).2.2.2)), (h_W, .inr (12, [.ref h_wc, .ref h_wd])), (h_M, .inr (13, [.ref h_S, h_M_1, h_M_2, h_M_3, .ref h_W, h_M_5, h_M_6, h_M_7, h_M_8, h_M_9]))] ++ pgl kI AL PP) H := hP
    have hD : va_D A ([(h_el, .inl (k_el, capE, .inr (.inr (.inr (.inr (egl AL)))))), (h_li, .inr (4, [h_li_0, .ref h_el, .int (nI PP.length)])), (h_A, .inr (5, [.ref h_li, .ref (pad AL 0)])), (h_mp, .inl (k_mp, 36, .inl mp)), (h_S, .inr (11, [.ref h_A, h_S_1, h_S_2, .ref h_mp, h_S_4, .int n, h_S_6, h_S_7, h_S_8, h_S_9])), (h_wc, .inl (k_wc, 36, .inl (F_X10_distanceAgain PP mp n wc wd a2 a3).2.2.1)), (h_wd, .inl (k_wd, 6, .inl (F_X10_distanceAgain PP mp n wc wd a2 a3).2.2.2)), (h_W, .inr (12, [.ref h_wc, .ref h_wd])), (h_M, .inr (13, [.ref h_S, h_M_1, h_M_2, h_M_3, .ref h_W, h_M_5, h_M_6, h_M_7, h_M_8, h_M_9]))] ++ pgl kI AL PP) := hD
    have hK : va_K D vwCl [(k_el, .object "java/lang/Object"), (k_mp, .int), (k_wc, .int), (k_wd, .int), (kI, .int)] s := hK
    refine W.eq (g2 := F0 m 6 ls [.int (F_X10_distanceAgain PP mp n wc wd a2 a3).2.1]) rfl ?_
    refine W.widen (k := 3) (n := 18) (Nat.le_of_ble_eq_true rfl) (Nat.le_of_ble_eq_true rfl) ?_
    exact W.iret (v := (F_X10_distanceAgain PP mp n wc wd a2 a3).2.1) hx hb hr (QG_.mk (fun _ => 0) (fun _ => 0) (fun _ => 0) ([0, 1, 2, 3, 4, 5, 6, 7, 8] ++ (tl_ 9 (pgl kI AL PP))) [0, 1, 2, 3, 4] hP hD hK hS (by rw [hM]) trivial (by rw [hM]; exact tl_C [0, 1, 2, 3, 4, 5, 6, 7, 8] rfl rfl) (tl_nd [0, 1, 2, 3, 4, 5, 6, 7, 8] (by decide) (by decide)) rfl) hS.2.2 dL_distanceAgain_6
  · rcases hE with ⟨rfl, c_2⟩ | ⟨rfl, c_2⟩
    · have hP : va_P D vwCl ([(h_el, .inl (k_el, capE, .inr (.inr (.inr (.inr (egl AL)))))), (h_li, .inr (4, [h_li_0, .ref h_el, .int (nI PP.length)])), (h_A, .inr (5, [.ref h_li, .ref (pad AL 0)])), (h_mp, .inl (k_mp, 36, .inl mp)), (h_S, .inr (11, [.ref h_A, h_S_1, h_S_2, .ref h_mp, h_S_4, .int n, h_S_6, h_S_7, h_S_8, h_S_9])), (h_wc, .inl (k_wc, 36, .inl (F_X10_distanceAgain PP mp n wc wd a2 a3).2.2.1)), (h_wd, .inl (k_wd, 6, .inl (F_X10_distanceAgain PP mp n wc wd a2 a3).2.2.2)), (h_W, .inr (12, [.ref h_wc, .ref h_wd])), (h_M, .inr (13, [.ref h_S, h_M_1, h_M_2, h_M_3, .ref h_W, h_M_5, h_M_6, h_M_7, h_M_8, h_M_9]))] ++ pgl kI AL PP) H := hP
      have hD : va_D A ([(h_el, .inl (k_el, capE, .inr (.inr (.inr (.inr (egl AL)))))), (h_li, .inr (4, [h_li_0, .ref h_el, .int (nI PP.length)])), (h_A, .inr (5, [.ref h_li, .ref (pad AL 0)])), (h_mp, .inl (k_mp, 36, .inl mp)), (h_S, .inr (11, [.ref h_A, h_S_1, h_S_2, .ref h_mp, h_S_4, .int n, h_S_6, h_S_7, h_S_8, h_S_9])), (h_wc, .inl (k_wc, 36, .inl (F_X10_distanceAgain PP mp n wc wd a2 a3).2.2.1)), (h_wd, .inl (k_wd, 6, .inl (F_X10_distanceAgain PP mp n wc wd a2 a3).2.2.2)), (h_W, .inr (12, [.ref h_wc, .ref h_wd])), (h_M, .inr (13, [.ref h_S, h_M_1, h_M_2, h_M_3, .ref h_W, h_M_5, h_M_6, h_M_7, h_M_8, h_M_9]))] ++ pgl kI AL PP) := hD
      have hK : va_K D vwCl [(k_el, .object "java/lang/Object"), (k_mp, .int), (k_wc, .int), (k_wd, .int), (kI, .int)] s := hK
      rw [if_neg (show ¬ (F_X10_distanceAgain PP mp n wc wd a2 a3).1 = 0 from by rw [c_2]; decide)] at hM
      rw [if_pos c_2] at hM
      refine vx_catch (own := RL) (name := "java/lang/IndexOutOfBoundsException") (E := "java/lang/IndexOutOfBoundsException") hown [] (⟨0, 6, 7, 36⟩ : ExceptionTableEntry) [(⟨0, 6, 12, 43⟩ : ExceptionTableEntry)] (htb.trans rfl) (fun z hz => by cases hz) (by decide) (by decide) (hts (.classLink RL 36 "java/lang/IndexOutOfBoundsException") (List.mem_of_getElem? (i := 1) (by decide +kernel))) (fxk_ hF "java/lang/IndexOutOfBoundsException" "java/lang/IndexOutOfBoundsException") hce hvm hcl ?_
      refine W.eq (g2 := F0 m 7 ls [.ref q9]) rfl ?_
      refine lv_astore_n (lv' := [(3, .ref q9), (0, .ref h_M), (1, .int a2), (2, .int a3)]) hx hb dL_distanceAgain_7 rfl hl (by decide) rfl (fun ls hl => ?_)
      refine lv_sipush (v := (-1001)) hx hb dL_distanceAgain_8 (by decide +kernel) ?_
      refine W.widen (k := 3) (n := 18) (Nat.le_of_ble_eq_true rfl) (Nat.le_of_ble_eq_true rfl) ?_
      exact W.iret (v := (-1001)) hx hb hr (QG_.mk (fun _ => 0) (fun _ => 0) (fun _ => 0) ([0, 1, 2, 3, 4, 5, 6, 7, 8] ++ (tl_ 9 (pgl kI AL PP))) [0, 1, 2, 3, 4] hP hD hK hS (by rw [hM]) trivial (by rw [hM]; exact tl_C [0, 1, 2, 3, 4, 5, 6, 7, 8] rfl rfl) (tl_nd [0, 1, 2, 3, 4, 5, 6, 7, 8] (by decide) (by decide)) rfl) hS.2.2 dL_distanceAgain_11
    · have hP : va_P D vwCl ([(h_el, .inl (k_el, capE, .inr (.inr (.inr (.inr (egl AL)))))), (h_li, .inr (4, [h_li_0, .ref h_el, .int (nI PP.length)])), (h_A, .inr (5, [.ref h_li, .ref (pad AL 0)])), (h_mp, .inl (k_mp, 36, .inl mp)), (h_S, .inr (11, [.ref h_A, h_S_1, h_S_2, .ref h_mp, h_S_4, .int n, h_S_6, h_S_7, h_S_8, h_S_9])), (h_wc, .inl (k_wc, 36, .inl (F_X10_distanceAgain PP mp n wc wd a2 a3).2.2.1)), (h_wd, .inl (k_wd, 6, .inl (F_X10_distanceAgain PP mp n wc wd a2 a3).2.2.2)), (h_W, .inr (12, [.ref h_wc, .ref h_wd])), (h_M, .inr (13, [.ref h_S, h_M_1, h_M_2, h_M_3, .ref h_W, h_M_5, h_M_6, h_M_7, h_M_8, h_M_9]))] ++ pgl kI AL PP) H := hP
      have hD : va_D A ([(h_el, .inl (k_el, capE, .inr (.inr (.inr (.inr (egl AL)))))), (h_li, .inr (4, [h_li_0, .ref h_el, .int (nI PP.length)])), (h_A, .inr (5, [.ref h_li, .ref (pad AL 0)])), (h_mp, .inl (k_mp, 36, .inl mp)), (h_S, .inr (11, [.ref h_A, h_S_1, h_S_2, .ref h_mp, h_S_4, .int n, h_S_6, h_S_7, h_S_8, h_S_9])), (h_wc, .inl (k_wc, 36, .inl (F_X10_distanceAgain PP mp n wc wd a2 a3).2.2.1)), (h_wd, .inl (k_wd, 6, .inl (F_X10_distanceAgain PP mp n wc wd a2 a3).2.2.2)), (h_W, .inr (12, [.ref h_wc, .ref h_wd])), (h_M, .inr (13, [.ref h_S, h_M_1, h_M_2, h_M_3, .ref h_W, h_M_5, h_M_6, h_M_7, h_M_8, h_M_9]))] ++ pgl kI AL PP) := hD
      have hK : va_K D vwCl [(k_el, .object "java/lang/Object"), (k_mp, .int), (k_wc, .int), (k_wd, .int), (kI, .int)] s := hK
      rw [if_neg (show ¬ (F_X10_distanceAgain PP mp n wc wd a2 a3).1 = 0 from by rw [c_2]; decide)] at hM
      rw [if_neg (show ¬ (F_X10_distanceAgain PP mp n wc wd a2 a3).1 = 2 from by rw [c_2]; decide)] at hM
      refine vx_catch (own := RL) (name := "java/util/NoSuchElementException") (E := "java/util/NoSuchElementException") hown [(⟨0, 6, 7, 36⟩ : ExceptionTableEntry)] (⟨0, 6, 12, 43⟩ : ExceptionTableEntry) [] (htb.trans rfl) (List.forall_mem_cons.mpr ⟨(Or.inr ⟨by decide, "java/lang/IndexOutOfBoundsException", (hts (.classLink RL 36 "java/lang/IndexOutOfBoundsException") (List.mem_of_getElem? (i := 1) (by decide +kernel))), fxd_ hF "java/util/NoSuchElementException" "java/lang/IndexOutOfBoundsException"⟩), (fun z hz => absurd hz List.not_mem_nil)⟩) (by decide) (by decide) (fxl_ hF (43, "java/util/NoSuchElementException")) (fxk_ hF "java/util/NoSuchElementException" "java/util/NoSuchElementException") hce hvm hcl ?_
      refine W.eq (g2 := F0 m 12 ls [.ref q9]) rfl ?_
      refine lv_astore_n (lv' := [(3, .ref q9), (0, .ref h_M), (1, .int a2), (2, .int a3)]) hx hb dL_distanceAgain_12 rfl hl (by decide) rfl (fun ls hl => ?_)
      refine lv_sipush (v := (-1002)) hx hb dL_distanceAgain_13 (by decide +kernel) ?_
      refine W.widen (k := 3) (n := 18) (Nat.le_of_ble_eq_true rfl) (Nat.le_of_ble_eq_true rfl) ?_
      exact W.iret (v := (-1002)) hx hb hr (QG_.mk (fun _ => 0) (fun _ => 0) (fun _ => 0) ([0, 1, 2, 3, 4, 5, 6, 7, 8] ++ (tl_ 9 (pgl kI AL PP))) [0, 1, 2, 3, 4] hP hD hK hS (by rw [hM]) trivial (by rw [hM]; exact tl_C [0, 1, 2, 3, 4, 5, 6, 7, 8] rfl rfl) (tl_nd [0, 1, 2, 3, 4, 5, 6, 7, 8] (by decide) (by decide)) rfl) hS.2.2 dL_distanceAgain_16
def F_L_next (PP : List PG) (mp : Nat → Int32) (n : Int32) (wc : Nat → Int32) (wd : Nat → Int32) (a2 : Int32) (a3 : Int32) : Int32 × (Nat → Int32) × (Nat → Int32) := (if (F_X10_next PP mp n wc wd a2 a3).1 = 0 then ((F_X10_next PP mp n wc wd a2 a3).2.1, ((F_X10_next PP mp n wc wd a2 a3).2.2.1), ((F_X10_next PP mp n wc wd a2 a3).2.2.2)) else (if (F_X10_next PP mp n wc wd a2 a3).1 = 2 then ((-1001), ((F_X10_next PP mp n wc wd a2 a3).2.2.1), ((F_X10_next PP mp n wc wd a2 a3).2.2.2)) else ((-1002), ((F_X10_next PP mp n wc wd a2 a3).2.2.1), ((F_X10_next PP mp n wc wd a2 a3).2.2.2))))
set_option maxHeartbeats 4000000 in
set_option maxRecDepth 100000 in
theorem c_L_next (l : Launch) (hl0 : l.stackTraces = false) (D : va_G) (ad : Nat → Nat) (sz : Nat) (h_el : Nat) (h_li : Nat) (h_A : Nat) (h_mp : Nat) (h_S : Nat) (h_wc : Nat) (h_wd : Nat) (h_W : Nat) (h_M : Nat) (k_el : ClassId) (k_mp : ClassId) (k_wc : ClassId) (k_wd : ClassId) (h_li_0 : Value) (h_S_1 : Value) (h_S_2 : Value) (h_S_4 : Value) (h_S_6 : Value) (h_S_7 : Value) (h_S_8 : Value) (h_S_9 : Value) (h_M_1 : Value) (h_M_2 : Value) (h_M_3 : Value) (h_M_5 : Value) (h_M_6 : Value) (h_M_7 : Value) (h_M_8 : Value) (h_M_9 : Value) (kI : ClassId) (AL : List (Nat × Nat)) (PP : List PG) (capE : Nat) (mp : Nat → Int32) (n : Int32) (wc : Nat → Int32) (wd : Nat → Int32) (a2 : Int32) (a3 : Int32) (hlen : AL.length = PP.length) (hpos : 0 < PP.length) (hbig : PP.length ≤ 2000000) (hy0 : n.toInt ≤ 6) (hy1 : PP.length ≤ capE) : Met l yL_next wsL_next ({ frames := 8, cells := 3, slots := 18, locals := 194 }) (PC_ D ad ([(h_el, .inl (k_el, capE, .inr (.inr (.inr (.inr (egl AL)))))), (h_li, .inr (4, [h_li_0, .ref h_el, .int (nI PP.length)])), (h_A, .inr (5, [.ref h_li, .ref (pad AL 0)])), (h_mp, .inl (k_mp, 36, .inl mp)), (h_S, .inr (11, [.ref h_A, h_S_1, h_S_2, .ref h_mp, h_S_4, .int n, h_S_6, h_S_7, h_S_8, h_S_9])), (h_wc, .inl (k_wc, 36, .inl wc)), (h_wd, .inl (k_wd, 6, .inl wd)), (h_W, .inr (12, [.ref h_wc, .ref h_wd])), (h_M, .inr (13, [.ref h_S, h_M_1, h_M_2, h_M_3, .ref h_W, h_M_5, h_M_6, h_M_7, h_M_8, h_M_9]))] ++ pgl kI AL PP) [(k_el, .object "java/lang/Object"), (k_mp, .int), (k_wc, .int), (k_wd, .int), (kI, .int)] sz [.ref h_M, .int a2, .int a3]) (QG_ D (fun q i => some (.int (F_L_next PP mp n wc wd a2 a3).1)) (fun q i => True) (fun q k i => ([(h_el, .inl (k_el, capE, .inr (.inr (.inr (.inr (egl AL)))))), (h_li, .inr (4, [h_li_0, .ref h_el, .int (nI PP.length)])), (h_A, .inr (5, [.ref h_li, .ref (pad AL 0)])), (h_mp, .inl (k_mp, 36, .inl mp)), (h_S, .inr (11, [.ref h_A, h_S_1, h_S_2, .ref h_mp, h_S_4, .int n, h_S_6, h_S_7, h_S_8, h_S_9])), (h_wc, .inl (k_wc, 36, .inl (F_L_next PP mp n wc wd a2 a3).2.1)), (h_wd, .inl (k_wd, 6, .inl (F_L_next PP mp n wc wd a2 a3).2.2)), (h_W, .inr (12, [.ref h_wc, .ref h_wd])), (h_M, .inr (13, [.ref h_S, h_M_1, h_M_2, h_M_3, .ref h_W, h_M_5, h_M_6, h_M_7, h_M_8, h_M_9]))] ++ pgl kI AL PP)) (fun q k i => [(k_el, .object "java/lang/Object"), (k_mp, .int), (k_wc, .int), (k_wd, .int), (kI, .int)]) (va_A ([(h_el, .inl (k_el, capE, .inr (.inr (.inr (.inr (egl AL)))))), (h_li, .inr (4, [h_li_0, .ref h_el, .int (nI PP.length)])), (h_A, .inr (5, [.ref h_li, .ref (pad AL 0)])), (h_mp, .inl (k_mp, 36, .inl mp)), (h_S, .inr (11, [.ref h_A, h_S_1, h_S_2, .ref h_mp, h_S_4, .int n, h_S_6, h_S_7, h_S_8, h_S_9])), (h_wc, .inl (k_wc, 36, .inl wc)), (h_wd, .inl (k_wd, 6, .inl wd)), (h_W, .inr (12, [.ref h_wc, .ref h_wd])), (h_M, .inr (13, [.ref h_S, h_M_1, h_M_2, h_M_3, .ref h_W, h_M_5, h_M_6, h_M_7, h_M_8, h_M_9]))] ++ pgl kI AL PP) sz)) 3 18 (va_A ([(h_el, .inl (k_el, capE, .inr (.inr (.inr (.inr (egl AL)))))), (h_li, .inr (4, [h_li_0, .ref h_el, .int (nI PP.length)])), (h_A, .inr (5, [.ref h_li, .ref (pad AL 0)])), (h_mp, .inl (k_mp, 36, .inl mp)), (h_S, .inr (11, [.ref h_A, h_S_1, h_S_2, .ref h_mp, h_S_4, .int n, h_S_6, h_S_7, h_S_8, h_S_9])), (h_wc, .inl (k_wc, 36, .inl wc)), (h_wd, .inl (k_wd, 6, .inl wd)), (h_W, .inr (12, [.ref h_wc, .ref h_wd])), (h_M, .inr (13, [.ref h_S, h_M_1, h_M_2, h_M_3, .ref h_W, h_M_5, h_M_6, h_M_7, h_M_8, h_M_9]))] ++ pgl kI AL PP) sz) := by
  refine va_MetW (cc := cL_next) (maxL := 4) (ret := (some .int)) (by decide) rfl ?_
  intro p e s m args below meth c s₁ B hml hv
  obtain ⟨rfl, hsz, hP, hK, hD0, hF⟩ := hv
  have hx := B.exec
  have hb := B.bytes
  have hr := B.returns
  have hts := atoms_spec (ws := wsL_next) B.pre
  have hown : s.vm.findClass RL = some m.cls := findClass_of_methodNamed B.named
  have hlocks := B.notSynchronized
  have htb := vx_table (x := yL_next) B (hts _ (List.mem_cons_self))
  subst hsz
  have hD := hD0.self (sz := s.heap.size)
  generalize hAe : va_A ([(h_el, .inl (k_el, capE, .inr (.inr (.inr (.inr (egl AL)))))), (h_li, .inr (4, [h_li_0, .ref h_el, .int (nI PP.length)])), (h_A, .inr (5, [.ref h_li, .ref (pad AL 0)])), (h_mp, .inl (k_mp, 36, .inl mp)), (h_S, .inr (11, [.ref h_A, h_S_1, h_S_2, .ref h_mp, h_S_4, .int n, h_S_6, h_S_7, h_S_8, h_S_9])), (h_wc, .inl (k_wc, 36, .inl wc)), (h_wd, .inl (k_wd, 6, .inl wd)), (h_W, .inr (12, [.ref h_wc, .ref h_wd])), (h_M, .inr (13, [.ref h_S, h_M_1, h_M_2, h_M_3, .ref h_W, h_M_5, h_M_6, h_M_7, h_M_8, h_M_9]))] ++ pgl kI AL PP) s.heap.size = A at hD hF ⊢
  have hA : ∀ q : Nat, s.heap.size ≤ q → A q := fun q h => by rw [← hAe]; exact Or.inr h
  obtain ⟨H, hHe⟩ : ∃ H : Heap, H = s.heap := ⟨_, rfl⟩
  have hS : va_S A s.heap H [] := by rw [hHe]; exact va_S.rf
  have hP : va_P D vwCl ([(h_el, .inl (k_el, capE, .inr (.inr (.inr (.inr (egl AL)))))), (h_li, .inr (4, [h_li_0, .ref h_el, .int (nI PP.length)])), (h_A, .inr (5, [.ref h_li, .ref (pad AL 0)])), (h_mp, .inl (k_mp, 36, .inl mp)), (h_S, .inr (11, [.ref h_A, h_S_1, h_S_2, .ref h_mp, h_S_4, .int n, h_S_6, h_S_7, h_S_8, h_S_9])), (h_wc, .inl (k_wc, 36, .inl wc)), (h_wd, .inl (k_wd, 6, .inl wd)), (h_W, .inr (12, [.ref h_wc, .ref h_wd])), (h_M, .inr (13, [.ref h_S, h_M_1, h_M_2, h_M_3, .ref h_W, h_M_5, h_M_6, h_M_7, h_M_8, h_M_9]))] ++ pgl kI AL PP) H := by rw [hHe]; exact hP
  rw [← hHe]
  have hl := lv_entry [.ref h_M, .int a2, .int a3] (n := 4) (Nat.le_of_ble_eq_true rfl)
  rw [lg_entry_eq]
  generalize (lg_sl [.ref h_M, .int a2, .int a3] ++ List.replicate (4 - (lg_sl [.ref h_M, .int a2, .int a3]).length) Slot.unset).toArray = ls at hl ⊢
  have hl : lv_has ls 4 [(0, .ref h_M), (1, .int a2), (2, .int a3)] := hl
  have hM : F_L_next PP mp n wc wd a2 a3 = (if (F_X10_next PP mp n wc wd a2 a3).1 = 0 then ((F_X10_next PP mp n wc wd a2 a3).2.1, ((F_X10_next PP mp n wc wd a2 a3).2.2.1), ((F_X10_next PP mp n wc wd a2 a3).2.2.2)) else (if (F_X10_next PP mp n wc wd a2 a3).1 = 2 then ((-1001), ((F_X10_next PP mp n wc wd a2 a3).2.2.1), ((F_X10_next PP mp n wc wd a2 a3).2.2.2)) else ((-1002), ((F_X10_next PP mp n wc wd a2 a3).2.2.1), ((F_X10_next PP mp n wc wd a2 a3).2.2.2)))) := rfl
  refine lv_aload_n hx hb dL_next_0 rfl (lv_at hl 0 rfl) ?_
  refine lv_iload_n hx hb dL_next_1 rfl (lv_at hl 1 rfl) ?_
  refine lv_iload_n hx hb dL_next_2 rfl (lv_at hl 2 rfl) ?_
  refine kz_ (wc := ([(h_el, .inl (k_el, capE, .inr (.inr (.inr (.inr (egl AL)))))), (h_li, .inr (4, [h_li_0, .ref h_el, .int (nI PP.length)])), (h_A, .inr (5, [.ref h_li, .ref (pad AL 0)])), (h_mp, .inl (k_mp, 36, .inl mp)), (h_S, .inr (11, [.ref h_A, h_S_1, h_S_2, .ref h_mp, h_S_4, .int n, h_S_6, h_S_7, h_S_8, h_S_9])), (h_wc, .inl (k_wc, 36, .inl wc)), (h_wd, .inl (k_wd, 6, .inl wd)), (h_W, .inr (12, [.ref h_wc, .ref h_wd])), (h_M, .inr (13, [.ref h_S, h_M_1, h_M_2, h_M_3, .ref h_W, h_M_5, h_M_6, h_M_7, h_M_8, h_M_9]))] ++ pgl kI AL PP)) (wr := []) (vx_runV (As := [.int a2, .int a3]) (rest := []) ⟨hx, hb, hml, hown, hts⟩ (c_X10_next l hl0 D ad H.size h_el h_li h_A h_mp h_S h_wc h_wd h_W h_M k_el k_mp k_wc k_wd (h_li_0) (h_S_1) (h_S_2) (h_S_4) (h_S_6) (h_S_7) (h_S_8) (h_S_9) (h_M_1) (h_M_2) (h_M_3) (h_M_5) (h_M_6) (h_M_7) (h_M_8) (h_M_9) kI AL PP capE mp n wc wd a2 a3 hlen hpos hbig (by have z0 := hy0; have z1 := hy1; have q_len := hlen; have q_pos := hpos; have q_big := hbig; have q_n := nI_toInt (n := PP.length) (by omega); omega) (by have z0 := hy0; have z1 := hy1; have q_len := hlen; have q_pos := hpos; have q_big := hbig; have q_n := nI_toInt (n := PP.length) (by omega); omega)) (cwV 2 hts gL_next_X10_next rfl rfl rfl (by decide +kernel) ⟨Nat.le_of_ble_eq_true rfl, Nat.le_of_ble_eq_true rfl⟩) ⟨PC_.blind, va_recv hK hP (ci := 13) (q0 := 8) rfl rfl, PC_.pre hF hK hP hD hS hA ([0, 1, 2, 3, 4, 5, 6, 7, 8] ++ (tl_ 9 (pgl kI AL PP))) [0, 1, 2, 3, 4] (tl_C [0, 1, 2, 3, 4, 5, 6, 7, 8] rfl rfl) (tl_nd [0, 1, 2, 3, 4, 5, 6, 7, 8] (by decide) (by decide)) rfl⟩ rfl rfl hl.1 rfl (lv_room (Nat.le_of_ble_eq_true rfl)) dL_next_3 ⟨(Nat.le_of_ble_eq_true rfl), (Nat.le_of_ble_eq_true rfl)⟩) hK hP hD hS hA ([0, 1, 2, 3, 4, 5, 6, 7, 8] ++ (tl_ 9 (pgl kI AL PP))) [] [] (tl_C [0, 1, 2, 3, 4, 5, 6, 7, 8] rfl rfl) rfl (by decide) (tl_dis [] [0, 1, 2, 3, 4, 5, 6, 7, 8] (by decide) (by decide)) rfl (fun qa_1 ka_1 ia H locs c_2 hP hD hK hS => ?_) (fun E9 ce q9 qa_1 ka_1 ia H locs hE hP hD hK hS hce hvm hcl => ?_)
  · rw [if_pos c_2] at hM
    have hP : va_P D vwCl ([(h_el, .inl (k_el, capE, .inr (.inr (.inr (.inr (egl AL)))))), (h_li, .inr (4, [h_li_0, .ref h_el, .int (nI PP.length)])), (h_A, .inr (5, [.ref h_li, .ref (pad AL 0)])), (h_mp, .inl (k_mp, 36, .inl mp)), (h_S, .inr (11, [.ref h_A, h_S_1, h_S_2, .ref h_mp, h_S_4, .int n, h_S_6, h_S_7, h_S_8, h_S_9])), (h_wc, .inl (k_wc, 36, .inl (F_X10_next PP mp n wc wd a2 a3).2.2.1)), (h_wd, .inl (k_wd, 6, .inl (F_X10_next PP mp n wc wd a2 a3).2.2.2)), (h_W, .inr (12, [.ref h_wc, .ref h_wd])), (h_M, .inr (13, [.ref h_S, h_M_1, h_M_2, h_M_3, .ref h_W, h_M_5, h_M_6, h_M_7, h_M_8, h_M_9]))] ++ pgl kI AL PP) H := hP
    have hD : va_D A ([(h_el, .inl (k_el, capE, .inr (.inr (.inr (.inr (egl AL)))))), (h_li, .inr (4, [h_li_0, .ref h_el, .int (nI PP.length)])), (h_A, .inr (5, [.ref h_li, .ref (pad AL 0)])), (h_mp, .inl (k_mp, 36, .inl mp)), (h_S, .inr (11, [.ref h_A, h_S_1, h_S_2, .ref h_mp, h_S_4, .int n, h_S_6, h_S_7, h_S_8, h_S_9])), (h_wc, .inl (k_wc, 36, .inl (F_X10_next PP mp n wc wd a2 a3).2.2.1)), (h_wd, .inl (k_wd, 6, .inl (F_X10_next PP mp n wc wd a2 a3).2.2.2)), (h_W, .inr (12, [.ref h_wc, .ref h_wd])), (h_M, .inr (13, [.ref h_S, h_M_1, h_M_2, h_M_3, .ref h_W, h_M_5, h_M_6, h_M_7, h_M_8, h_M_9]))] ++ pgl kI AL PP) := hD
    have hK : va_K D vwCl [(k_el, .object "java/lang/Object"), (k_mp, .int), (k_wc, .int), (k_wd, .int), (kI, .int)] s := hK
    refine W.eq (g2 := F0 m 6 ls [.int (F_X10_next PP mp n wc wd a2 a3).2.1]) rfl ?_
    refine W.widen (k := 3) (n := 18) (Nat.le_of_ble_eq_true rfl) (Nat.le_of_ble_eq_true rfl) ?_
    exact W.iret (v := (F_X10_next PP mp n wc wd a2 a3).2.1) hx hb hr (QG_.mk (fun _ => 0) (fun _ => 0) (fun _ => 0) ([0, 1, 2, 3, 4, 5, 6, 7, 8] ++ (tl_ 9 (pgl kI AL PP))) [0, 1, 2, 3, 4] hP hD hK hS (by rw [hM]) trivial (by rw [hM]; exact tl_C [0, 1, 2, 3, 4, 5, 6, 7, 8] rfl rfl) (tl_nd [0, 1, 2, 3, 4, 5, 6, 7, 8] (by decide) (by decide)) rfl) hS.2.2 dL_next_6
  · rcases hE with ⟨rfl, c_2⟩ | ⟨rfl, c_2⟩
    · have hP : va_P D vwCl ([(h_el, .inl (k_el, capE, .inr (.inr (.inr (.inr (egl AL)))))), (h_li, .inr (4, [h_li_0, .ref h_el, .int (nI PP.length)])), (h_A, .inr (5, [.ref h_li, .ref (pad AL 0)])), (h_mp, .inl (k_mp, 36, .inl mp)), (h_S, .inr (11, [.ref h_A, h_S_1, h_S_2, .ref h_mp, h_S_4, .int n, h_S_6, h_S_7, h_S_8, h_S_9])), (h_wc, .inl (k_wc, 36, .inl (F_X10_next PP mp n wc wd a2 a3).2.2.1)), (h_wd, .inl (k_wd, 6, .inl (F_X10_next PP mp n wc wd a2 a3).2.2.2)), (h_W, .inr (12, [.ref h_wc, .ref h_wd])), (h_M, .inr (13, [.ref h_S, h_M_1, h_M_2, h_M_3, .ref h_W, h_M_5, h_M_6, h_M_7, h_M_8, h_M_9]))] ++ pgl kI AL PP) H := hP
      have hD : va_D A ([(h_el, .inl (k_el, capE, .inr (.inr (.inr (.inr (egl AL)))))), (h_li, .inr (4, [h_li_0, .ref h_el, .int (nI PP.length)])), (h_A, .inr (5, [.ref h_li, .ref (pad AL 0)])), (h_mp, .inl (k_mp, 36, .inl mp)), (h_S, .inr (11, [.ref h_A, h_S_1, h_S_2, .ref h_mp, h_S_4, .int n, h_S_6, h_S_7, h_S_8, h_S_9])), (h_wc, .inl (k_wc, 36, .inl (F_X10_next PP mp n wc wd a2 a3).2.2.1)), (h_wd, .inl (k_wd, 6, .inl (F_X10_next PP mp n wc wd a2 a3).2.2.2)), (h_W, .inr (12, [.ref h_wc, .ref h_wd])), (h_M, .inr (13, [.ref h_S, h_M_1, h_M_2, h_M_3, .ref h_W, h_M_5, h_M_6, h_M_7, h_M_8, h_M_9]))] ++ pgl kI AL PP) := hD
      have hK : va_K D vwCl [(k_el, .object "java/lang/Object"), (k_mp, .int), (k_wc, .int), (k_wd, .int), (kI, .int)] s := hK
      rw [if_neg (show ¬ (F_X10_next PP mp n wc wd a2 a3).1 = 0 from by rw [c_2]; decide)] at hM
      rw [if_pos c_2] at hM
      refine vx_catch (own := RL) (name := "java/lang/IndexOutOfBoundsException") (E := "java/lang/IndexOutOfBoundsException") hown [] (⟨0, 6, 7, 36⟩ : ExceptionTableEntry) [(⟨0, 6, 12, 43⟩ : ExceptionTableEntry)] (htb.trans rfl) (fun z hz => by cases hz) (by decide) (by decide) (hts (.classLink RL 36 "java/lang/IndexOutOfBoundsException") (List.mem_of_getElem? (i := 1) (by decide +kernel))) (fxk_ hF "java/lang/IndexOutOfBoundsException" "java/lang/IndexOutOfBoundsException") hce hvm hcl ?_
      refine W.eq (g2 := F0 m 7 ls [.ref q9]) rfl ?_
      refine lv_astore_n (lv' := [(3, .ref q9), (0, .ref h_M), (1, .int a2), (2, .int a3)]) hx hb dL_next_7 rfl hl (by decide) rfl (fun ls hl => ?_)
      refine lv_sipush (v := (-1001)) hx hb dL_next_8 (by decide +kernel) ?_
      refine W.widen (k := 3) (n := 18) (Nat.le_of_ble_eq_true rfl) (Nat.le_of_ble_eq_true rfl) ?_
      exact W.iret (v := (-1001)) hx hb hr (QG_.mk (fun _ => 0) (fun _ => 0) (fun _ => 0) ([0, 1, 2, 3, 4, 5, 6, 7, 8] ++ (tl_ 9 (pgl kI AL PP))) [0, 1, 2, 3, 4] hP hD hK hS (by rw [hM]) trivial (by rw [hM]; exact tl_C [0, 1, 2, 3, 4, 5, 6, 7, 8] rfl rfl) (tl_nd [0, 1, 2, 3, 4, 5, 6, 7, 8] (by decide) (by decide)) rfl) hS.2.2 dL_next_11
    · have hP : va_P D vwCl ([(h_el, .inl (k_el, capE, .inr (.inr (.inr (.inr (egl AL)))))), (h_li, .inr (4, [h_li_0, .ref h_el, .int (nI PP.length)])), (h_A, .inr (5, [.ref h_li, .ref (pad AL 0)])), (h_mp, .inl (k_mp, 36, .inl mp)), (h_S, .inr (11, [.ref h_A, h_S_1, h_S_2, .ref h_mp, h_S_4, .int n, h_S_6, h_S_7, h_S_8, h_S_9])), (h_wc, .inl (k_wc, 36, .inl (F_X10_next PP mp n wc wd a2 a3).2.2.1)), (h_wd, .inl (k_wd, 6, .inl (F_X10_next PP mp n wc wd a2 a3).2.2.2)), (h_W, .inr (12, [.ref h_wc, .ref h_wd])), (h_M, .inr (13, [.ref h_S, h_M_1, h_M_2, h_M_3, .ref h_W, h_M_5, h_M_6, h_M_7, h_M_8, h_M_9]))] ++ pgl kI AL PP) H := hP
      have hD : va_D A ([(h_el, .inl (k_el, capE, .inr (.inr (.inr (.inr (egl AL)))))), (h_li, .inr (4, [h_li_0, .ref h_el, .int (nI PP.length)])), (h_A, .inr (5, [.ref h_li, .ref (pad AL 0)])), (h_mp, .inl (k_mp, 36, .inl mp)), (h_S, .inr (11, [.ref h_A, h_S_1, h_S_2, .ref h_mp, h_S_4, .int n, h_S_6, h_S_7, h_S_8, h_S_9])), (h_wc, .inl (k_wc, 36, .inl (F_X10_next PP mp n wc wd a2 a3).2.2.1)), (h_wd, .inl (k_wd, 6, .inl (F_X10_next PP mp n wc wd a2 a3).2.2.2)), (h_W, .inr (12, [.ref h_wc, .ref h_wd])), (h_M, .inr (13, [.ref h_S, h_M_1, h_M_2, h_M_3, .ref h_W, h_M_5, h_M_6, h_M_7, h_M_8, h_M_9]))] ++ pgl kI AL PP) := hD
      have hK : va_K D vwCl [(k_el, .object "java/lang/Object"), (k_mp, .int), (k_wc, .int), (k_wd, .int), (kI, .int)] s := hK
      rw [if_neg (show ¬ (F_X10_next PP mp n wc wd a2 a3).1 = 0 from by rw [c_2]; decide)] at hM
      rw [if_neg (show ¬ (F_X10_next PP mp n wc wd a2 a3).1 = 2 from by rw [c_2]; decide)] at hM
      refine vx_catch (own := RL) (name := "java/util/NoSuchElementException") (E := "java/util/NoSuchElementException") hown [(⟨0, 6, 7, 36⟩ : ExceptionTableEntry)] (⟨0, 6, 12, 43⟩ : ExceptionTableEntry) [] (htb.trans rfl) (List.forall_mem_cons.mpr ⟨(Or.inr ⟨by decide, "java/lang/IndexOutOfBoundsException", (hts (.classLink RL 36 "java/lang/IndexOutOfBoundsException") (List.mem_of_getElem? (i := 1) (by decide +kernel))), fxd_ hF "java/util/NoSuchElementException" "java/lang/IndexOutOfBoundsException"⟩), (fun z hz => absurd hz List.not_mem_nil)⟩) (by decide) (by decide) (fxl_ hF (43, "java/util/NoSuchElementException")) (fxk_ hF "java/util/NoSuchElementException" "java/util/NoSuchElementException") hce hvm hcl ?_
      refine W.eq (g2 := F0 m 12 ls [.ref q9]) rfl ?_
      refine lv_astore_n (lv' := [(3, .ref q9), (0, .ref h_M), (1, .int a2), (2, .int a3)]) hx hb dL_next_12 rfl hl (by decide) rfl (fun ls hl => ?_)
      refine lv_sipush (v := (-1002)) hx hb dL_next_13 (by decide +kernel) ?_
      refine W.widen (k := 3) (n := 18) (Nat.le_of_ble_eq_true rfl) (Nat.le_of_ble_eq_true rfl) ?_
      exact W.iret (v := (-1002)) hx hb hr (QG_.mk (fun _ => 0) (fun _ => 0) (fun _ => 0) ([0, 1, 2, 3, 4, 5, 6, 7, 8] ++ (tl_ 9 (pgl kI AL PP))) [0, 1, 2, 3, 4] hP hD hK hS (by rw [hM]) trivial (by rw [hM]; exact tl_C [0, 1, 2, 3, 4, 5, 6, 7, 8] rfl rfl) (tl_nd [0, 1, 2, 3, 4, 5, 6, 7, 8] (by decide) (by decide)) rfl) hS.2.2 dL_next_16
def F_L_reached (PP : List PG) (mp : Nat → Int32) (n : Int32) (wc : Nat → Int32) (wd : Nat → Int32) (a2 : Int32) : Int32 × (Nat → Int32) × (Nat → Int32) := (if (F_X10_reached PP mp n wc wd a2).1 = 0 then ((F_X10_reached PP mp n wc wd a2).2.1, ((F_X10_reached PP mp n wc wd a2).2.2.1), ((F_X10_reached PP mp n wc wd a2).2.2.2)) else ((-1001), ((F_X10_reached PP mp n wc wd a2).2.2.1), ((F_X10_reached PP mp n wc wd a2).2.2.2)))
set_option maxHeartbeats 4000000 in
set_option maxRecDepth 100000 in
theorem c_L_reached (l : Launch) (hl0 : l.stackTraces = false) (D : va_G) (ad : Nat → Nat) (sz : Nat) (h_el : Nat) (h_li : Nat) (h_A : Nat) (h_mp : Nat) (h_S : Nat) (h_wc : Nat) (h_wd : Nat) (h_W : Nat) (h_M : Nat) (k_el : ClassId) (k_mp : ClassId) (k_wc : ClassId) (k_wd : ClassId) (h_li_0 : Value) (h_S_1 : Value) (h_S_2 : Value) (h_S_4 : Value) (h_S_6 : Value) (h_S_7 : Value) (h_S_8 : Value) (h_S_9 : Value) (h_M_1 : Value) (h_M_2 : Value) (h_M_3 : Value) (h_M_5 : Value) (h_M_6 : Value) (h_M_7 : Value) (h_M_8 : Value) (h_M_9 : Value) (kI : ClassId) (AL : List (Nat × Nat)) (PP : List PG) (capE : Nat) (mp : Nat → Int32) (n : Int32) (wc : Nat → Int32) (wd : Nat → Int32) (a2 : Int32) (hlen : AL.length = PP.length) (hpos : 0 < PP.length) (hbig : PP.length ≤ 2000000) (hy0 : n.toInt ≤ 6) (hy1 : PP.length ≤ capE) : Met l yL_reached wsL_reached ({ frames := 8, cells := 1, slots := 6, locals := 170 }) (PC_ D ad ([(h_el, .inl (k_el, capE, .inr (.inr (.inr (.inr (egl AL)))))), (h_li, .inr (4, [h_li_0, .ref h_el, .int (nI PP.length)])), (h_A, .inr (5, [.ref h_li, .ref (pad AL 0)])), (h_mp, .inl (k_mp, 36, .inl mp)), (h_S, .inr (11, [.ref h_A, h_S_1, h_S_2, .ref h_mp, h_S_4, .int n, h_S_6, h_S_7, h_S_8, h_S_9])), (h_wc, .inl (k_wc, 36, .inl wc)), (h_wd, .inl (k_wd, 6, .inl wd)), (h_W, .inr (12, [.ref h_wc, .ref h_wd])), (h_M, .inr (13, [.ref h_S, h_M_1, h_M_2, h_M_3, .ref h_W, h_M_5, h_M_6, h_M_7, h_M_8, h_M_9]))] ++ pgl kI AL PP) [(k_el, .object "java/lang/Object"), (k_mp, .int), (k_wc, .int), (k_wd, .int), (kI, .int)] sz [.ref h_M, .int a2]) (QG_ D (fun q i => some (.int (F_L_reached PP mp n wc wd a2).1)) (fun q i => True) (fun q k i => ([(h_el, .inl (k_el, capE, .inr (.inr (.inr (.inr (egl AL)))))), (h_li, .inr (4, [h_li_0, .ref h_el, .int (nI PP.length)])), (h_A, .inr (5, [.ref h_li, .ref (pad AL 0)])), (h_mp, .inl (k_mp, 36, .inl mp)), (h_S, .inr (11, [.ref h_A, h_S_1, h_S_2, .ref h_mp, h_S_4, .int n, h_S_6, h_S_7, h_S_8, h_S_9])), (h_wc, .inl (k_wc, 36, .inl (F_L_reached PP mp n wc wd a2).2.1)), (h_wd, .inl (k_wd, 6, .inl (F_L_reached PP mp n wc wd a2).2.2)), (h_W, .inr (12, [.ref h_wc, .ref h_wd])), (h_M, .inr (13, [.ref h_S, h_M_1, h_M_2, h_M_3, .ref h_W, h_M_5, h_M_6, h_M_7, h_M_8, h_M_9]))] ++ pgl kI AL PP)) (fun q k i => [(k_el, .object "java/lang/Object"), (k_mp, .int), (k_wc, .int), (k_wd, .int), (kI, .int)]) (va_A ([(h_el, .inl (k_el, capE, .inr (.inr (.inr (.inr (egl AL)))))), (h_li, .inr (4, [h_li_0, .ref h_el, .int (nI PP.length)])), (h_A, .inr (5, [.ref h_li, .ref (pad AL 0)])), (h_mp, .inl (k_mp, 36, .inl mp)), (h_S, .inr (11, [.ref h_A, h_S_1, h_S_2, .ref h_mp, h_S_4, .int n, h_S_6, h_S_7, h_S_8, h_S_9])), (h_wc, .inl (k_wc, 36, .inl wc)), (h_wd, .inl (k_wd, 6, .inl wd)), (h_W, .inr (12, [.ref h_wc, .ref h_wd])), (h_M, .inr (13, [.ref h_S, h_M_1, h_M_2, h_M_3, .ref h_W, h_M_5, h_M_6, h_M_7, h_M_8, h_M_9]))] ++ pgl kI AL PP) sz)) 1 6 (va_A ([(h_el, .inl (k_el, capE, .inr (.inr (.inr (.inr (egl AL)))))), (h_li, .inr (4, [h_li_0, .ref h_el, .int (nI PP.length)])), (h_A, .inr (5, [.ref h_li, .ref (pad AL 0)])), (h_mp, .inl (k_mp, 36, .inl mp)), (h_S, .inr (11, [.ref h_A, h_S_1, h_S_2, .ref h_mp, h_S_4, .int n, h_S_6, h_S_7, h_S_8, h_S_9])), (h_wc, .inl (k_wc, 36, .inl wc)), (h_wd, .inl (k_wd, 6, .inl wd)), (h_W, .inr (12, [.ref h_wc, .ref h_wd])), (h_M, .inr (13, [.ref h_S, h_M_1, h_M_2, h_M_3, .ref h_W, h_M_5, h_M_6, h_M_7, h_M_8, h_M_9]))] ++ pgl kI AL PP) sz) := by
  refine va_MetW (cc := cL_reached) (maxL := 3) (ret := (some .int)) (by decide) rfl ?_
  intro p e s m args below meth c s₁ B hml hv
  obtain ⟨rfl, hsz, hP, hK, hD0, hF⟩ := hv
  have hx := B.exec
  have hb := B.bytes
  have hr := B.returns
  have hts := atoms_spec (ws := wsL_reached) B.pre
  have hown : s.vm.findClass RL = some m.cls := findClass_of_methodNamed B.named
  have hlocks := B.notSynchronized
  have htb := vx_table (x := yL_reached) B (hts _ (List.mem_cons_self))
  subst hsz
  have hD := hD0.self (sz := s.heap.size)
  generalize hAe : va_A ([(h_el, .inl (k_el, capE, .inr (.inr (.inr (.inr (egl AL)))))), (h_li, .inr (4, [h_li_0, .ref h_el, .int (nI PP.length)])), (h_A, .inr (5, [.ref h_li, .ref (pad AL 0)])), (h_mp, .inl (k_mp, 36, .inl mp)), (h_S, .inr (11, [.ref h_A, h_S_1, h_S_2, .ref h_mp, h_S_4, .int n, h_S_6, h_S_7, h_S_8, h_S_9])), (h_wc, .inl (k_wc, 36, .inl wc)), (h_wd, .inl (k_wd, 6, .inl wd)), (h_W, .inr (12, [.ref h_wc, .ref h_wd])), (h_M, .inr (13, [.ref h_S, h_M_1, h_M_2, h_M_3, .ref h_W, h_M_5, h_M_6, h_M_7, h_M_8, h_M_9]))] ++ pgl kI AL PP) s.heap.size = A at hD hF ⊢
  have hA : ∀ q : Nat, s.heap.size ≤ q → A q := fun q h => by rw [← hAe]; exact Or.inr h
  obtain ⟨H, hHe⟩ : ∃ H : Heap, H = s.heap := ⟨_, rfl⟩
  have hS : va_S A s.heap H [] := by rw [hHe]; exact va_S.rf
  have hP : va_P D vwCl ([(h_el, .inl (k_el, capE, .inr (.inr (.inr (.inr (egl AL)))))), (h_li, .inr (4, [h_li_0, .ref h_el, .int (nI PP.length)])), (h_A, .inr (5, [.ref h_li, .ref (pad AL 0)])), (h_mp, .inl (k_mp, 36, .inl mp)), (h_S, .inr (11, [.ref h_A, h_S_1, h_S_2, .ref h_mp, h_S_4, .int n, h_S_6, h_S_7, h_S_8, h_S_9])), (h_wc, .inl (k_wc, 36, .inl wc)), (h_wd, .inl (k_wd, 6, .inl wd)), (h_W, .inr (12, [.ref h_wc, .ref h_wd])), (h_M, .inr (13, [.ref h_S, h_M_1, h_M_2, h_M_3, .ref h_W, h_M_5, h_M_6, h_M_7, h_M_8, h_M_9]))] ++ pgl kI AL PP) H := by rw [hHe]; exact hP
  rw [← hHe]
  have hl := lv_entry [.ref h_M, .int a2] (n := 3) (Nat.le_of_ble_eq_true rfl)
  rw [lg_entry_eq]
  generalize (lg_sl [.ref h_M, .int a2] ++ List.replicate (3 - (lg_sl [.ref h_M, .int a2]).length) Slot.unset).toArray = ls at hl ⊢
  have hl : lv_has ls 3 [(0, .ref h_M), (1, .int a2)] := hl
  have hM : F_L_reached PP mp n wc wd a2 = (if (F_X10_reached PP mp n wc wd a2).1 = 0 then ((F_X10_reached PP mp n wc wd a2).2.1, ((F_X10_reached PP mp n wc wd a2).2.2.1), ((F_X10_reached PP mp n wc wd a2).2.2.2)) else ((-1001), ((F_X10_reached PP mp n wc wd a2).2.2.1), ((F_X10_reached PP mp n wc wd a2).2.2.2))) := rfl
  refine lv_aload_n hx hb dL_reached_0 rfl (lv_at hl 0 rfl) ?_
  refine lv_iload_n hx hb dL_reached_1 rfl (lv_at hl 1 rfl) ?_
  refine kz_ (wc := ([(h_el, .inl (k_el, capE, .inr (.inr (.inr (.inr (egl AL)))))), (h_li, .inr (4, [h_li_0, .ref h_el, .int (nI PP.length)])), (h_A, .inr (5, [.ref h_li, .ref (pad AL 0)])), (h_mp, .inl (k_mp, 36, .inl mp)), (h_S, .inr (11, [.ref h_A, h_S_1, h_S_2, .ref h_mp, h_S_4, .int n, h_S_6, h_S_7, h_S_8, h_S_9])), (h_wc, .inl (k_wc, 36, .inl wc)), (h_wd, .inl (k_wd, 6, .inl wd)), (h_W, .inr (12, [.ref h_wc, .ref h_wd])), (h_M, .inr (13, [.ref h_S, h_M_1, h_M_2, h_M_3, .ref h_W, h_M_5, h_M_6, h_M_7, h_M_8, h_M_9]))] ++ pgl kI AL PP)) (wr := []) (vx_runV (As := [.int a2]) (rest := []) ⟨hx, hb, hml, hown, hts⟩ (c_X10_reached l hl0 D ad H.size h_el h_li h_A h_mp h_S h_wc h_wd h_W h_M k_el k_mp k_wc k_wd (h_li_0) (h_S_1) (h_S_2) (h_S_4) (h_S_6) (h_S_7) (h_S_8) (h_S_9) (h_M_1) (h_M_2) (h_M_3) (h_M_5) (h_M_6) (h_M_7) (h_M_8) (h_M_9) kI AL PP capE mp n wc wd a2 hlen hpos hbig (by have z0 := hy0; have z1 := hy1; have q_len := hlen; have q_pos := hpos; have q_big := hbig; have q_n := nI_toInt (n := PP.length) (by omega); omega) (by have z0 := hy0; have z1 := hy1; have q_len := hlen; have q_pos := hpos; have q_big := hbig; have q_n := nI_toInt (n := PP.length) (by omega); omega)) (cwV 1 hts gL_reached_X10_reached rfl rfl rfl (by decide +kernel) ⟨Nat.le_of_ble_eq_true rfl, Nat.le_of_ble_eq_true rfl⟩) ⟨PC_.blind, va_recv hK hP (ci := 13) (q0 := 8) rfl rfl, PC_.pre hF hK hP hD hS hA ([0, 1, 2, 3, 4, 5, 6, 7, 8] ++ (tl_ 9 (pgl kI AL PP))) [0, 1, 2, 3, 4] (tl_C [0, 1, 2, 3, 4, 5, 6, 7, 8] rfl rfl) (tl_nd [0, 1, 2, 3, 4, 5, 6, 7, 8] (by decide) (by decide)) rfl⟩ rfl rfl hl.1 rfl (lv_room (Nat.le_of_ble_eq_true rfl)) dL_reached_2 ⟨(Nat.le_of_ble_eq_true rfl), (Nat.le_of_ble_eq_true rfl)⟩) hK hP hD hS hA ([0, 1, 2, 3, 4, 5, 6, 7, 8] ++ (tl_ 9 (pgl kI AL PP))) [] [] (tl_C [0, 1, 2, 3, 4, 5, 6, 7, 8] rfl rfl) rfl (by decide) (tl_dis [] [0, 1, 2, 3, 4, 5, 6, 7, 8] (by decide) (by decide)) rfl (fun qa_1 ka_1 ia H locs c_2 hP hD hK hS => ?_) (fun E9 ce q9 qa_1 ka_1 ia H locs hE hP hD hK hS hce hvm hcl => ?_)
  · rw [if_pos c_2] at hM
    have hP : va_P D vwCl ([(h_el, .inl (k_el, capE, .inr (.inr (.inr (.inr (egl AL)))))), (h_li, .inr (4, [h_li_0, .ref h_el, .int (nI PP.length)])), (h_A, .inr (5, [.ref h_li, .ref (pad AL 0)])), (h_mp, .inl (k_mp, 36, .inl mp)), (h_S, .inr (11, [.ref h_A, h_S_1, h_S_2, .ref h_mp, h_S_4, .int n, h_S_6, h_S_7, h_S_8, h_S_9])), (h_wc, .inl (k_wc, 36, .inl (F_X10_reached PP mp n wc wd a2).2.2.1)), (h_wd, .inl (k_wd, 6, .inl (F_X10_reached PP mp n wc wd a2).2.2.2)), (h_W, .inr (12, [.ref h_wc, .ref h_wd])), (h_M, .inr (13, [.ref h_S, h_M_1, h_M_2, h_M_3, .ref h_W, h_M_5, h_M_6, h_M_7, h_M_8, h_M_9]))] ++ pgl kI AL PP) H := hP
    have hD : va_D A ([(h_el, .inl (k_el, capE, .inr (.inr (.inr (.inr (egl AL)))))), (h_li, .inr (4, [h_li_0, .ref h_el, .int (nI PP.length)])), (h_A, .inr (5, [.ref h_li, .ref (pad AL 0)])), (h_mp, .inl (k_mp, 36, .inl mp)), (h_S, .inr (11, [.ref h_A, h_S_1, h_S_2, .ref h_mp, h_S_4, .int n, h_S_6, h_S_7, h_S_8, h_S_9])), (h_wc, .inl (k_wc, 36, .inl (F_X10_reached PP mp n wc wd a2).2.2.1)), (h_wd, .inl (k_wd, 6, .inl (F_X10_reached PP mp n wc wd a2).2.2.2)), (h_W, .inr (12, [.ref h_wc, .ref h_wd])), (h_M, .inr (13, [.ref h_S, h_M_1, h_M_2, h_M_3, .ref h_W, h_M_5, h_M_6, h_M_7, h_M_8, h_M_9]))] ++ pgl kI AL PP) := hD
    have hK : va_K D vwCl [(k_el, .object "java/lang/Object"), (k_mp, .int), (k_wc, .int), (k_wd, .int), (kI, .int)] s := hK
    refine W.eq (g2 := F0 m 5 ls [.int (F_X10_reached PP mp n wc wd a2).2.1]) rfl ?_
    refine W.widen (k := 1) (n := 6) (Nat.le_of_ble_eq_true rfl) (Nat.le_of_ble_eq_true rfl) ?_
    exact W.iret (v := (F_X10_reached PP mp n wc wd a2).2.1) hx hb hr (QG_.mk (fun _ => 0) (fun _ => 0) (fun _ => 0) ([0, 1, 2, 3, 4, 5, 6, 7, 8] ++ (tl_ 9 (pgl kI AL PP))) [0, 1, 2, 3, 4] hP hD hK hS (by rw [hM]) trivial (by rw [hM]; exact tl_C [0, 1, 2, 3, 4, 5, 6, 7, 8] rfl rfl) (tl_nd [0, 1, 2, 3, 4, 5, 6, 7, 8] (by decide) (by decide)) rfl) hS.2.2 dL_reached_5
  · rcases hE with ⟨rfl, c_2⟩
    · have hP : va_P D vwCl ([(h_el, .inl (k_el, capE, .inr (.inr (.inr (.inr (egl AL)))))), (h_li, .inr (4, [h_li_0, .ref h_el, .int (nI PP.length)])), (h_A, .inr (5, [.ref h_li, .ref (pad AL 0)])), (h_mp, .inl (k_mp, 36, .inl mp)), (h_S, .inr (11, [.ref h_A, h_S_1, h_S_2, .ref h_mp, h_S_4, .int n, h_S_6, h_S_7, h_S_8, h_S_9])), (h_wc, .inl (k_wc, 36, .inl (F_X10_reached PP mp n wc wd a2).2.2.1)), (h_wd, .inl (k_wd, 6, .inl (F_X10_reached PP mp n wc wd a2).2.2.2)), (h_W, .inr (12, [.ref h_wc, .ref h_wd])), (h_M, .inr (13, [.ref h_S, h_M_1, h_M_2, h_M_3, .ref h_W, h_M_5, h_M_6, h_M_7, h_M_8, h_M_9]))] ++ pgl kI AL PP) H := hP
      have hD : va_D A ([(h_el, .inl (k_el, capE, .inr (.inr (.inr (.inr (egl AL)))))), (h_li, .inr (4, [h_li_0, .ref h_el, .int (nI PP.length)])), (h_A, .inr (5, [.ref h_li, .ref (pad AL 0)])), (h_mp, .inl (k_mp, 36, .inl mp)), (h_S, .inr (11, [.ref h_A, h_S_1, h_S_2, .ref h_mp, h_S_4, .int n, h_S_6, h_S_7, h_S_8, h_S_9])), (h_wc, .inl (k_wc, 36, .inl (F_X10_reached PP mp n wc wd a2).2.2.1)), (h_wd, .inl (k_wd, 6, .inl (F_X10_reached PP mp n wc wd a2).2.2.2)), (h_W, .inr (12, [.ref h_wc, .ref h_wd])), (h_M, .inr (13, [.ref h_S, h_M_1, h_M_2, h_M_3, .ref h_W, h_M_5, h_M_6, h_M_7, h_M_8, h_M_9]))] ++ pgl kI AL PP) := hD
      have hK : va_K D vwCl [(k_el, .object "java/lang/Object"), (k_mp, .int), (k_wc, .int), (k_wd, .int), (kI, .int)] s := hK
      rw [if_neg (show ¬ (F_X10_reached PP mp n wc wd a2).1 = 0 from by rw [c_2]; decide)] at hM
      refine vx_catch (own := RL) (name := "java/lang/IndexOutOfBoundsException") (E := "java/lang/IndexOutOfBoundsException") hown [] (⟨0, 5, 6, 36⟩ : ExceptionTableEntry) [] (htb.trans rfl) (fun z hz => by cases hz) (by decide) (by decide) (hts (.classLink RL 36 "java/lang/IndexOutOfBoundsException") (List.mem_of_getElem? (i := 1) (by decide +kernel))) (fxk_ hF "java/lang/IndexOutOfBoundsException" "java/lang/IndexOutOfBoundsException") hce hvm hcl ?_
      refine W.eq (g2 := F0 m 6 ls [.ref q9]) rfl ?_
      refine lv_astore_n (lv' := [(2, .ref q9), (0, .ref h_M), (1, .int a2)]) hx hb dL_reached_6 rfl hl (by decide) rfl (fun ls hl => ?_)
      refine lv_sipush (v := (-1001)) hx hb dL_reached_7 (by decide +kernel) ?_
      refine W.widen (k := 1) (n := 6) (Nat.le_of_ble_eq_true rfl) (Nat.le_of_ble_eq_true rfl) ?_
      exact W.iret (v := (-1001)) hx hb hr (QG_.mk (fun _ => 0) (fun _ => 0) (fun _ => 0) ([0, 1, 2, 3, 4, 5, 6, 7, 8] ++ (tl_ 9 (pgl kI AL PP))) [0, 1, 2, 3, 4] hP hD hK hS (by rw [hM]) trivial (by rw [hM]; exact tl_C [0, 1, 2, 3, 4, 5, 6, 7, 8] rfl rfl) (tl_nd [0, 1, 2, 3, 4, 5, 6, 7, 8] (by decide) (by decide)) rfl) hS.2.2 dL_reached_10
def F_L_follow (PP : List PG) (cs : Nat → Int32) (mp : Nat → Int32) (n : Int32) (wc : Nat → Int32) (wd : Nat → Int32) (a2 : Int32) (a3 : Int32) : Int32 × (Nat → Int32) × (Nat → Int32) := (if (F_X10_follow PP cs mp n wc wd a2 a3).1 = 0 then ((F_X10_follow PP cs mp n wc wd a2 a3).2.1, ((F_X10_follow PP cs mp n wc wd a2 a3).2.2.1), ((F_X10_follow PP cs mp n wc wd a2 a3).2.2.2)) else (if (F_X10_follow PP cs mp n wc wd a2 a3).1 = 2 then ((-1001), ((F_X10_follow PP cs mp n wc wd a2 a3).2.2.1), ((F_X10_follow PP cs mp n wc wd a2 a3).2.2.2)) else ((-1002), ((F_X10_follow PP cs mp n wc wd a2 a3).2.2.1), ((F_X10_follow PP cs mp n wc wd a2 a3).2.2.2))))
set_option maxHeartbeats 4000000 in
set_option maxRecDepth 100000 in
theorem c_L_follow (l : Launch) (hl0 : l.stackTraces = false) (D : va_G) (ad : Nat → Nat) (sz : Nat) (h_el : Nat) (h_li : Nat) (h_A : Nat) (h_cs : Nat) (h_mp : Nat) (h_S : Nat) (h_wc : Nat) (h_wd : Nat) (h_W : Nat) (h_M : Nat) (k_el : ClassId) (k_cs : ClassId) (k_mp : ClassId) (k_wc : ClassId) (k_wd : ClassId) (h_li_0 : Value) (h_S_1 : Value) (h_S_4 : Value) (h_S_6 : Value) (h_S_7 : Value) (h_S_8 : Value) (h_S_9 : Value) (h_M_1 : Value) (h_M_2 : Value) (h_M_3 : Value) (h_M_5 : Value) (h_M_6 : Value) (h_M_7 : Value) (h_M_8 : Value) (h_M_9 : Value) (kI : ClassId) (AL : List (Nat × Nat)) (PP : List PG) (capE : Nat) (cs : Nat → Int32) (mp : Nat → Int32) (n : Int32) (wc : Nat → Int32) (wd : Nat → Int32) (a2 : Int32) (a3 : Int32) (hlen : AL.length = PP.length) (hpos : 0 < PP.length) (hbig : PP.length ≤ 2000000) (hy0 : n.toInt ≤ 6) (hy1 : PP.length ≤ capE) : Met l yL_follow wsL_follow ({ frames := 8, cells := 3, slots := 18, locals := 199 }) (PC_ D ad ([(h_el, .inl (k_el, capE, .inr (.inr (.inr (.inr (egl AL)))))), (h_li, .inr (4, [h_li_0, .ref h_el, .int (nI PP.length)])), (h_A, .inr (5, [.ref h_li, .ref (pad AL 0)])), (h_cs, .inl (k_cs, 36, .inl cs)), (h_mp, .inl (k_mp, 36, .inl mp)), (h_S, .inr (11, [.ref h_A, h_S_1, .ref h_cs, .ref h_mp, h_S_4, .int n, h_S_6, h_S_7, h_S_8, h_S_9])), (h_wc, .inl (k_wc, 36, .inl wc)), (h_wd, .inl (k_wd, 6, .inl wd)), (h_W, .inr (12, [.ref h_wc, .ref h_wd])), (h_M, .inr (13, [.ref h_S, h_M_1, h_M_2, h_M_3, .ref h_W, h_M_5, h_M_6, h_M_7, h_M_8, h_M_9]))] ++ pgl kI AL PP) [(k_el, .object "java/lang/Object"), (k_cs, .int), (k_mp, .int), (k_wc, .int), (k_wd, .int), (kI, .int)] sz [.ref h_M, .int a2, .int a3]) (QG_ D (fun q i => some (.int (F_L_follow PP cs mp n wc wd a2 a3).1)) (fun q i => True) (fun q k i => ([(h_el, .inl (k_el, capE, .inr (.inr (.inr (.inr (egl AL)))))), (h_li, .inr (4, [h_li_0, .ref h_el, .int (nI PP.length)])), (h_A, .inr (5, [.ref h_li, .ref (pad AL 0)])), (h_cs, .inl (k_cs, 36, .inl cs)), (h_mp, .inl (k_mp, 36, .inl mp)), (h_S, .inr (11, [.ref h_A, h_S_1, .ref h_cs, .ref h_mp, h_S_4, .int n, h_S_6, h_S_7, h_S_8, h_S_9])), (h_wc, .inl (k_wc, 36, .inl (F_L_follow PP cs mp n wc wd a2 a3).2.1)), (h_wd, .inl (k_wd, 6, .inl (F_L_follow PP cs mp n wc wd a2 a3).2.2)), (h_W, .inr (12, [.ref h_wc, .ref h_wd])), (h_M, .inr (13, [.ref h_S, h_M_1, h_M_2, h_M_3, .ref h_W, h_M_5, h_M_6, h_M_7, h_M_8, h_M_9]))] ++ pgl kI AL PP)) (fun q k i => [(k_el, .object "java/lang/Object"), (k_cs, .int), (k_mp, .int), (k_wc, .int), (k_wd, .int), (kI, .int)]) (va_A ([(h_el, .inl (k_el, capE, .inr (.inr (.inr (.inr (egl AL)))))), (h_li, .inr (4, [h_li_0, .ref h_el, .int (nI PP.length)])), (h_A, .inr (5, [.ref h_li, .ref (pad AL 0)])), (h_cs, .inl (k_cs, 36, .inl cs)), (h_mp, .inl (k_mp, 36, .inl mp)), (h_S, .inr (11, [.ref h_A, h_S_1, .ref h_cs, .ref h_mp, h_S_4, .int n, h_S_6, h_S_7, h_S_8, h_S_9])), (h_wc, .inl (k_wc, 36, .inl wc)), (h_wd, .inl (k_wd, 6, .inl wd)), (h_W, .inr (12, [.ref h_wc, .ref h_wd])), (h_M, .inr (13, [.ref h_S, h_M_1, h_M_2, h_M_3, .ref h_W, h_M_5, h_M_6, h_M_7, h_M_8, h_M_9]))] ++ pgl kI AL PP) sz)) 3 18 (va_A ([(h_el, .inl (k_el, capE, .inr (.inr (.inr (.inr (egl AL)))))), (h_li, .inr (4, [h_li_0, .ref h_el, .int (nI PP.length)])), (h_A, .inr (5, [.ref h_li, .ref (pad AL 0)])), (h_cs, .inl (k_cs, 36, .inl cs)), (h_mp, .inl (k_mp, 36, .inl mp)), (h_S, .inr (11, [.ref h_A, h_S_1, .ref h_cs, .ref h_mp, h_S_4, .int n, h_S_6, h_S_7, h_S_8, h_S_9])), (h_wc, .inl (k_wc, 36, .inl wc)), (h_wd, .inl (k_wd, 6, .inl wd)), (h_W, .inr (12, [.ref h_wc, .ref h_wd])), (h_M, .inr (13, [.ref h_S, h_M_1, h_M_2, h_M_3, .ref h_W, h_M_5, h_M_6, h_M_7, h_M_8, h_M_9]))] ++ pgl kI AL PP) sz) := by
  refine va_MetW (cc := cL_follow) (maxL := 4) (ret := (some .int)) (by decide) rfl ?_
  intro p e s m args below meth c s₁ B hml hv
  obtain ⟨rfl, hsz, hP, hK, hD0, hF⟩ := hv
  have hx := B.exec
  have hb := B.bytes
  have hr := B.returns
  have hts := atoms_spec (ws := wsL_follow) B.pre
  have hown : s.vm.findClass RL = some m.cls := findClass_of_methodNamed B.named
  have hlocks := B.notSynchronized
  have htb := vx_table (x := yL_follow) B (hts _ (List.mem_cons_self))
  subst hsz
  have hD := hD0.self (sz := s.heap.size)
  generalize hAe : va_A ([(h_el, .inl (k_el, capE, .inr (.inr (.inr (.inr (egl AL)))))), (h_li, .inr (4, [h_li_0, .ref h_el, .int (nI PP.length)])), (h_A, .inr (5, [.ref h_li, .ref (pad AL 0)])), (h_cs, .inl (k_cs, 36, .inl cs)), (h_mp, .inl (k_mp, 36, .inl mp)), (h_S, .inr (11, [.ref h_A, h_S_1, .ref h_cs, .ref h_mp, h_S_4, .int n, h_S_6, h_S_7, h_S_8, h_S_9])), (h_wc, .inl (k_wc, 36, .inl wc)), (h_wd, .inl (k_wd, 6, .inl wd)), (h_W, .inr (12, [.ref h_wc, .ref h_wd])), (h_M, .inr (13, [.ref h_S, h_M_1, h_M_2, h_M_3, .ref h_W, h_M_5, h_M_6, h_M_7, h_M_8, h_M_9]))] ++ pgl kI AL PP) s.heap.size = A at hD hF ⊢
  have hA : ∀ q : Nat, s.heap.size ≤ q → A q := fun q h => by rw [← hAe]; exact Or.inr h
  obtain ⟨H, hHe⟩ : ∃ H : Heap, H = s.heap := ⟨_, rfl⟩
  have hS : va_S A s.heap H [] := by rw [hHe]; exact va_S.rf
  have hP : va_P D vwCl ([(h_el, .inl (k_el, capE, .inr (.inr (.inr (.inr (egl AL)))))), (h_li, .inr (4, [h_li_0, .ref h_el, .int (nI PP.length)])), (h_A, .inr (5, [.ref h_li, .ref (pad AL 0)])), (h_cs, .inl (k_cs, 36, .inl cs)), (h_mp, .inl (k_mp, 36, .inl mp)), (h_S, .inr (11, [.ref h_A, h_S_1, .ref h_cs, .ref h_mp, h_S_4, .int n, h_S_6, h_S_7, h_S_8, h_S_9])), (h_wc, .inl (k_wc, 36, .inl wc)), (h_wd, .inl (k_wd, 6, .inl wd)), (h_W, .inr (12, [.ref h_wc, .ref h_wd])), (h_M, .inr (13, [.ref h_S, h_M_1, h_M_2, h_M_3, .ref h_W, h_M_5, h_M_6, h_M_7, h_M_8, h_M_9]))] ++ pgl kI AL PP) H := by rw [hHe]; exact hP
  rw [← hHe]
  have hl := lv_entry [.ref h_M, .int a2, .int a3] (n := 4) (Nat.le_of_ble_eq_true rfl)
  rw [lg_entry_eq]
  generalize (lg_sl [.ref h_M, .int a2, .int a3] ++ List.replicate (4 - (lg_sl [.ref h_M, .int a2, .int a3]).length) Slot.unset).toArray = ls at hl ⊢
  have hl : lv_has ls 4 [(0, .ref h_M), (1, .int a2), (2, .int a3)] := hl
  have hM : F_L_follow PP cs mp n wc wd a2 a3 = (if (F_X10_follow PP cs mp n wc wd a2 a3).1 = 0 then ((F_X10_follow PP cs mp n wc wd a2 a3).2.1, ((F_X10_follow PP cs mp n wc wd a2 a3).2.2.1), ((F_X10_follow PP cs mp n wc wd a2 a3).2.2.2)) else (if (F_X10_follow PP cs mp n wc wd a2 a3).1 = 2 then ((-1001), ((F_X10_follow PP cs mp n wc wd a2 a3).2.2.1), ((F_X10_follow PP cs mp n wc wd a2 a3).2.2.2)) else ((-1002), ((F_X10_follow PP cs mp n wc wd a2 a3).2.2.1), ((F_X10_follow PP cs mp n wc wd a2 a3).2.2.2)))) := rfl
  refine lv_aload_n hx hb dL_follow_0 rfl (lv_at hl 0 rfl) ?_
  refine lv_iload_n hx hb dL_follow_1 rfl (lv_at hl 1 rfl) ?_
  refine lv_iload_n hx hb dL_follow_2 rfl (lv_at hl 2 rfl) ?_
  refine kz_ (wc := ([(h_el, .inl (k_el, capE, .inr (.inr (.inr (.inr (egl AL)))))), (h_li, .inr (4, [h_li_0, .ref h_el, .int (nI PP.length)])), (h_A, .inr (5, [.ref h_li, .ref (pad AL 0)])), (h_cs, .inl (k_cs, 36, .inl cs)), (h_mp, .inl (k_mp, 36, .inl mp)), (h_S, .inr (11, [.ref h_A, h_S_1, .ref h_cs, .ref h_mp, h_S_4, .int n, h_S_6, h_S_7, h_S_8, h_S_9])), (h_wc, .inl (k_wc, 36, .inl wc)), (h_wd, .inl (k_wd, 6, .inl wd)), (h_W, .inr (12, [.ref h_wc, .ref h_wd])), (h_M, .inr (13, [.ref h_S, h_M_1, h_M_2, h_M_3, .ref h_W, h_M_5, h_M_6, h_M_7, h_M_8, h_M_9]))] ++ pgl kI AL PP)) (wr := []) (vx_runV (As := [.int a2, .int a3]) (rest := []) ⟨hx, hb, hml, hown, hts⟩ (c_X10_follow l hl0 D ad H.size h_el h_li h_A h_cs h_mp h_S h_wc h_wd h_W h_M k_el k_cs k_mp k_wc k_wd (h_li_0) (h_S_1) (h_S_4) (h_S_6) (h_S_7) (h_S_8) (h_S_9) (h_M_1) (h_M_2) (h_M_3) (h_M_5) (h_M_6) (h_M_7) (h_M_8) (h_M_9) kI AL PP capE cs mp n wc wd a2 a3 hlen hpos hbig (by have z0 := hy0; have z1 := hy1; have q_len := hlen; have q_pos := hpos; have q_big := hbig; have q_n := nI_toInt (n := PP.length) (by omega); omega) (by have z0 := hy0; have z1 := hy1; have q_len := hlen; have q_pos := hpos; have q_big := hbig; have q_n := nI_toInt (n := PP.length) (by omega); omega)) (cwV 2 hts gL_follow_X10_follow rfl rfl rfl (by decide +kernel) ⟨Nat.le_of_ble_eq_true rfl, Nat.le_of_ble_eq_true rfl⟩) ⟨PC_.blind, va_recv hK hP (ci := 13) (q0 := 9) rfl rfl, PC_.pre hF hK hP hD hS hA ([0, 1, 2, 3, 4, 5, 6, 7, 8, 9] ++ (tl_ 10 (pgl kI AL PP))) [0, 1, 2, 3, 4, 5] (tl_C [0, 1, 2, 3, 4, 5, 6, 7, 8, 9] rfl rfl) (tl_nd [0, 1, 2, 3, 4, 5, 6, 7, 8, 9] (by decide) (by decide)) rfl⟩ rfl rfl hl.1 rfl (lv_room (Nat.le_of_ble_eq_true rfl)) dL_follow_3 ⟨(Nat.le_of_ble_eq_true rfl), (Nat.le_of_ble_eq_true rfl)⟩) hK hP hD hS hA ([0, 1, 2, 3, 4, 5, 6, 7, 8, 9] ++ (tl_ 10 (pgl kI AL PP))) [] [] (tl_C [0, 1, 2, 3, 4, 5, 6, 7, 8, 9] rfl rfl) rfl (by decide) (tl_dis [] [0, 1, 2, 3, 4, 5, 6, 7, 8, 9] (by decide) (by decide)) rfl (fun qa_1 ka_1 ia H locs c_2 hP hD hK hS => ?_) (fun E9 ce q9 qa_1 ka_1 ia H locs hE hP hD hK hS hce hvm hcl => ?_)
  · rw [if_pos c_2] at hM
    have hP : va_P D vwCl ([(h_el, .inl (k_el, capE, .inr (.inr (.inr (.inr (egl AL)))))), (h_li, .inr (4, [h_li_0, .ref h_el, .int (nI PP.length)])), (h_A, .inr (5, [.ref h_li, .ref (pad AL 0)])), (h_cs, .inl (k_cs, 36, .inl cs)), (h_mp, .inl (k_mp, 36, .inl mp)), (h_S, .inr (11, [.ref h_A, h_S_1, .ref h_cs, .ref h_mp, h_S_4, .int n, h_S_6, h_S_7, h_S_8, h_S_9])), (h_wc, .inl (k_wc, 36, .inl (F_X10_follow PP cs mp n wc wd a2 a3).2.2.1)), (h_wd, .inl (k_wd, 6, .inl (F_X10_follow PP cs mp n wc wd a2 a3).2.2.2)), (h_W, .inr (12, [.ref h_wc, .ref h_wd])), (h_M, .inr (13, [.ref h_S, h_M_1, h_M_2, h_M_3, .ref h_W, h_M_5, h_M_6, h_M_7, h_M_8, h_M_9]))] ++ pgl kI AL PP) H := hP
    have hD : va_D A ([(h_el, .inl (k_el, capE, .inr (.inr (.inr (.inr (egl AL)))))), (h_li, .inr (4, [h_li_0, .ref h_el, .int (nI PP.length)])), (h_A, .inr (5, [.ref h_li, .ref (pad AL 0)])), (h_cs, .inl (k_cs, 36, .inl cs)), (h_mp, .inl (k_mp, 36, .inl mp)), (h_S, .inr (11, [.ref h_A, h_S_1, .ref h_cs, .ref h_mp, h_S_4, .int n, h_S_6, h_S_7, h_S_8, h_S_9])), (h_wc, .inl (k_wc, 36, .inl (F_X10_follow PP cs mp n wc wd a2 a3).2.2.1)), (h_wd, .inl (k_wd, 6, .inl (F_X10_follow PP cs mp n wc wd a2 a3).2.2.2)), (h_W, .inr (12, [.ref h_wc, .ref h_wd])), (h_M, .inr (13, [.ref h_S, h_M_1, h_M_2, h_M_3, .ref h_W, h_M_5, h_M_6, h_M_7, h_M_8, h_M_9]))] ++ pgl kI AL PP) := hD
    have hK : va_K D vwCl [(k_el, .object "java/lang/Object"), (k_cs, .int), (k_mp, .int), (k_wc, .int), (k_wd, .int), (kI, .int)] s := hK
    refine W.eq (g2 := F0 m 6 ls [.int (F_X10_follow PP cs mp n wc wd a2 a3).2.1]) rfl ?_
    refine W.widen (k := 3) (n := 18) (Nat.le_of_ble_eq_true rfl) (Nat.le_of_ble_eq_true rfl) ?_
    exact W.iret (v := (F_X10_follow PP cs mp n wc wd a2 a3).2.1) hx hb hr (QG_.mk (fun _ => 0) (fun _ => 0) (fun _ => 0) ([0, 1, 2, 3, 4, 5, 6, 7, 8, 9] ++ (tl_ 10 (pgl kI AL PP))) [0, 1, 2, 3, 4, 5] hP hD hK hS (by rw [hM]) trivial (by rw [hM]; exact tl_C [0, 1, 2, 3, 4, 5, 6, 7, 8, 9] rfl rfl) (tl_nd [0, 1, 2, 3, 4, 5, 6, 7, 8, 9] (by decide) (by decide)) rfl) hS.2.2 dL_follow_6
  · rcases hE with ⟨rfl, c_2⟩ | ⟨rfl, c_2⟩
    · have hP : va_P D vwCl ([(h_el, .inl (k_el, capE, .inr (.inr (.inr (.inr (egl AL)))))), (h_li, .inr (4, [h_li_0, .ref h_el, .int (nI PP.length)])), (h_A, .inr (5, [.ref h_li, .ref (pad AL 0)])), (h_cs, .inl (k_cs, 36, .inl cs)), (h_mp, .inl (k_mp, 36, .inl mp)), (h_S, .inr (11, [.ref h_A, h_S_1, .ref h_cs, .ref h_mp, h_S_4, .int n, h_S_6, h_S_7, h_S_8, h_S_9])), (h_wc, .inl (k_wc, 36, .inl (F_X10_follow PP cs mp n wc wd a2 a3).2.2.1)), (h_wd, .inl (k_wd, 6, .inl (F_X10_follow PP cs mp n wc wd a2 a3).2.2.2)), (h_W, .inr (12, [.ref h_wc, .ref h_wd])), (h_M, .inr (13, [.ref h_S, h_M_1, h_M_2, h_M_3, .ref h_W, h_M_5, h_M_6, h_M_7, h_M_8, h_M_9]))] ++ pgl kI AL PP) H := hP
      have hD : va_D A ([(h_el, .inl (k_el, capE, .inr (.inr (.inr (.inr (egl AL)))))), (h_li, .inr (4, [h_li_0, .ref h_el, .int (nI PP.length)])), (h_A, .inr (5, [.ref h_li, .ref (pad AL 0)])), (h_cs, .inl (k_cs, 36, .inl cs)), (h_mp, .inl (k_mp, 36, .inl mp)), (h_S, .inr (11, [.ref h_A, h_S_1, .ref h_cs, .ref h_mp, h_S_4, .int n, h_S_6, h_S_7, h_S_8, h_S_9])), (h_wc, .inl (k_wc, 36, .inl (F_X10_follow PP cs mp n wc wd a2 a3).2.2.1)), (h_wd, .inl (k_wd, 6, .inl (F_X10_follow PP cs mp n wc wd a2 a3).2.2.2)), (h_W, .inr (12, [.ref h_wc, .ref h_wd])), (h_M, .inr (13, [.ref h_S, h_M_1, h_M_2, h_M_3, .ref h_W, h_M_5, h_M_6, h_M_7, h_M_8, h_M_9]))] ++ pgl kI AL PP) := hD
      have hK : va_K D vwCl [(k_el, .object "java/lang/Object"), (k_cs, .int), (k_mp, .int), (k_wc, .int), (k_wd, .int), (kI, .int)] s := hK
      rw [if_neg (show ¬ (F_X10_follow PP cs mp n wc wd a2 a3).1 = 0 from by rw [c_2]; decide)] at hM
      rw [if_pos c_2] at hM
      refine vx_catch (own := RL) (name := "java/lang/IndexOutOfBoundsException") (E := "java/lang/IndexOutOfBoundsException") hown [] (⟨0, 6, 7, 36⟩ : ExceptionTableEntry) [(⟨0, 6, 12, 43⟩ : ExceptionTableEntry)] (htb.trans rfl) (fun z hz => by cases hz) (by decide) (by decide) (hts (.classLink RL 36 "java/lang/IndexOutOfBoundsException") (List.mem_of_getElem? (i := 1) (by decide +kernel))) (fxk_ hF "java/lang/IndexOutOfBoundsException" "java/lang/IndexOutOfBoundsException") hce hvm hcl ?_
      refine W.eq (g2 := F0 m 7 ls [.ref q9]) rfl ?_
      refine lv_astore_n (lv' := [(3, .ref q9), (0, .ref h_M), (1, .int a2), (2, .int a3)]) hx hb dL_follow_7 rfl hl (by decide) rfl (fun ls hl => ?_)
      refine lv_sipush (v := (-1001)) hx hb dL_follow_8 (by decide +kernel) ?_
      refine W.widen (k := 3) (n := 18) (Nat.le_of_ble_eq_true rfl) (Nat.le_of_ble_eq_true rfl) ?_
      exact W.iret (v := (-1001)) hx hb hr (QG_.mk (fun _ => 0) (fun _ => 0) (fun _ => 0) ([0, 1, 2, 3, 4, 5, 6, 7, 8, 9] ++ (tl_ 10 (pgl kI AL PP))) [0, 1, 2, 3, 4, 5] hP hD hK hS (by rw [hM]) trivial (by rw [hM]; exact tl_C [0, 1, 2, 3, 4, 5, 6, 7, 8, 9] rfl rfl) (tl_nd [0, 1, 2, 3, 4, 5, 6, 7, 8, 9] (by decide) (by decide)) rfl) hS.2.2 dL_follow_11
    · have hP : va_P D vwCl ([(h_el, .inl (k_el, capE, .inr (.inr (.inr (.inr (egl AL)))))), (h_li, .inr (4, [h_li_0, .ref h_el, .int (nI PP.length)])), (h_A, .inr (5, [.ref h_li, .ref (pad AL 0)])), (h_cs, .inl (k_cs, 36, .inl cs)), (h_mp, .inl (k_mp, 36, .inl mp)), (h_S, .inr (11, [.ref h_A, h_S_1, .ref h_cs, .ref h_mp, h_S_4, .int n, h_S_6, h_S_7, h_S_8, h_S_9])), (h_wc, .inl (k_wc, 36, .inl (F_X10_follow PP cs mp n wc wd a2 a3).2.2.1)), (h_wd, .inl (k_wd, 6, .inl (F_X10_follow PP cs mp n wc wd a2 a3).2.2.2)), (h_W, .inr (12, [.ref h_wc, .ref h_wd])), (h_M, .inr (13, [.ref h_S, h_M_1, h_M_2, h_M_3, .ref h_W, h_M_5, h_M_6, h_M_7, h_M_8, h_M_9]))] ++ pgl kI AL PP) H := hP
      have hD : va_D A ([(h_el, .inl (k_el, capE, .inr (.inr (.inr (.inr (egl AL)))))), (h_li, .inr (4, [h_li_0, .ref h_el, .int (nI PP.length)])), (h_A, .inr (5, [.ref h_li, .ref (pad AL 0)])), (h_cs, .inl (k_cs, 36, .inl cs)), (h_mp, .inl (k_mp, 36, .inl mp)), (h_S, .inr (11, [.ref h_A, h_S_1, .ref h_cs, .ref h_mp, h_S_4, .int n, h_S_6, h_S_7, h_S_8, h_S_9])), (h_wc, .inl (k_wc, 36, .inl (F_X10_follow PP cs mp n wc wd a2 a3).2.2.1)), (h_wd, .inl (k_wd, 6, .inl (F_X10_follow PP cs mp n wc wd a2 a3).2.2.2)), (h_W, .inr (12, [.ref h_wc, .ref h_wd])), (h_M, .inr (13, [.ref h_S, h_M_1, h_M_2, h_M_3, .ref h_W, h_M_5, h_M_6, h_M_7, h_M_8, h_M_9]))] ++ pgl kI AL PP) := hD
      have hK : va_K D vwCl [(k_el, .object "java/lang/Object"), (k_cs, .int), (k_mp, .int), (k_wc, .int), (k_wd, .int), (kI, .int)] s := hK
      rw [if_neg (show ¬ (F_X10_follow PP cs mp n wc wd a2 a3).1 = 0 from by rw [c_2]; decide)] at hM
      rw [if_neg (show ¬ (F_X10_follow PP cs mp n wc wd a2 a3).1 = 2 from by rw [c_2]; decide)] at hM
      refine vx_catch (own := RL) (name := "java/util/NoSuchElementException") (E := "java/util/NoSuchElementException") hown [(⟨0, 6, 7, 36⟩ : ExceptionTableEntry)] (⟨0, 6, 12, 43⟩ : ExceptionTableEntry) [] (htb.trans rfl) (List.forall_mem_cons.mpr ⟨(Or.inr ⟨by decide, "java/lang/IndexOutOfBoundsException", (hts (.classLink RL 36 "java/lang/IndexOutOfBoundsException") (List.mem_of_getElem? (i := 1) (by decide +kernel))), fxd_ hF "java/util/NoSuchElementException" "java/lang/IndexOutOfBoundsException"⟩), (fun z hz => absurd hz List.not_mem_nil)⟩) (by decide) (by decide) (fxl_ hF (43, "java/util/NoSuchElementException")) (fxk_ hF "java/util/NoSuchElementException" "java/util/NoSuchElementException") hce hvm hcl ?_
      refine W.eq (g2 := F0 m 12 ls [.ref q9]) rfl ?_
      refine lv_astore_n (lv' := [(3, .ref q9), (0, .ref h_M), (1, .int a2), (2, .int a3)]) hx hb dL_follow_12 rfl hl (by decide) rfl (fun ls hl => ?_)
      refine lv_sipush (v := (-1002)) hx hb dL_follow_13 (by decide +kernel) ?_
      refine W.widen (k := 3) (n := 18) (Nat.le_of_ble_eq_true rfl) (Nat.le_of_ble_eq_true rfl) ?_
      exact W.iret (v := (-1002)) hx hb hr (QG_.mk (fun _ => 0) (fun _ => 0) (fun _ => 0) ([0, 1, 2, 3, 4, 5, 6, 7, 8, 9] ++ (tl_ 10 (pgl kI AL PP))) [0, 1, 2, 3, 4, 5] hP hD hK hS (by rw [hM]) trivial (by rw [hM]; exact tl_C [0, 1, 2, 3, 4, 5, 6, 7, 8, 9] rfl rfl) (tl_nd [0, 1, 2, 3, 4, 5, 6, 7, 8, 9] (by decide) (by decide)) rfl) hS.2.2 dL_follow_16
def F_L_real (ds : Nat → Int32) (cs : Nat → Int32) (n : Int32) (wc : Nat → Int32) (wd : Nat → Int32) (a2 : Int32) (a3 : Int32) : Int32 × (Nat → Int32) × (Nat → Int32) := (if (F_X10_real ds cs n wc wd a2 a3).1 = 0 then ((F_X10_real ds cs n wc wd a2 a3).2.1, ((F_X10_real ds cs n wc wd a2 a3).2.2.1), ((F_X10_real ds cs n wc wd a2 a3).2.2.2)) else (if (F_X10_real ds cs n wc wd a2 a3).1 = 2 then ((-1001), ((F_X10_real ds cs n wc wd a2 a3).2.2.1), ((F_X10_real ds cs n wc wd a2 a3).2.2.2)) else ((-1002), ((F_X10_real ds cs n wc wd a2 a3).2.2.1), ((F_X10_real ds cs n wc wd a2 a3).2.2.2))))
set_option maxHeartbeats 4000000 in
set_option maxRecDepth 100000 in
theorem c_L_real (l : Launch) (hl0 : l.stackTraces = false) (D : va_G) (ad : Nat → Nat) (sz : Nat) (h_ds : Nat) (h_cs : Nat) (h_S : Nat) (h_wc : Nat) (h_wd : Nat) (h_W : Nat) (h_M : Nat) (k_ds : ClassId) (k_cs : ClassId) (k_wc : ClassId) (k_wd : ClassId) (h_S_0 : Value) (h_S_3 : Value) (h_S_4 : Value) (h_S_6 : Value) (h_S_7 : Value) (h_S_8 : Value) (h_S_9 : Value) (h_M_1 : Value) (h_M_2 : Value) (h_M_3 : Value) (h_M_5 : Value) (h_M_6 : Value) (h_M_7 : Value) (h_M_8 : Value) (h_M_9 : Value) (ds : Nat → Int32) (cs : Nat → Int32) (n : Int32) (wc : Nat → Int32) (wd : Nat → Int32) (a2 : Int32) (a3 : Int32) (hy0 : n.toInt ≤ 6) : Met l yL_real wsL_real ({ frames := 8, cells := 3, slots := 18, locals := 147 }) (PC_ D ad [(h_ds, .inl (k_ds, 6, .inl ds)), (h_cs, .inl (k_cs, 36, .inl cs)), (h_S, .inr (11, [h_S_0, .ref h_ds, .ref h_cs, h_S_3, h_S_4, .int n, h_S_6, h_S_7, h_S_8, h_S_9])), (h_wc, .inl (k_wc, 36, .inl wc)), (h_wd, .inl (k_wd, 6, .inl wd)), (h_W, .inr (12, [.ref h_wc, .ref h_wd])), (h_M, .inr (13, [.ref h_S, h_M_1, h_M_2, h_M_3, .ref h_W, h_M_5, h_M_6, h_M_7, h_M_8, h_M_9]))] [(k_ds, .int), (k_cs, .int), (k_wc, .int), (k_wd, .int)] sz [.ref h_M, .int a2, .int a3]) (QG_ D (fun q i => some (.int (F_L_real ds cs n wc wd a2 a3).1)) (fun q i => True) (fun q k i => [(h_ds, .inl (k_ds, 6, .inl ds)), (h_cs, .inl (k_cs, 36, .inl cs)), (h_S, .inr (11, [h_S_0, .ref h_ds, .ref h_cs, h_S_3, h_S_4, .int n, h_S_6, h_S_7, h_S_8, h_S_9])), (h_wc, .inl (k_wc, 36, .inl (F_L_real ds cs n wc wd a2 a3).2.1)), (h_wd, .inl (k_wd, 6, .inl (F_L_real ds cs n wc wd a2 a3).2.2)), (h_W, .inr (12, [.ref h_wc, .ref h_wd])), (h_M, .inr (13, [.ref h_S, h_M_1, h_M_2, h_M_3, .ref h_W, h_M_5, h_M_6, h_M_7, h_M_8, h_M_9]))]) (fun q k i => [(k_ds, .int), (k_cs, .int), (k_wc, .int), (k_wd, .int)]) (va_A [(h_ds, .inl (k_ds, 6, .inl ds)), (h_cs, .inl (k_cs, 36, .inl cs)), (h_S, .inr (11, [h_S_0, .ref h_ds, .ref h_cs, h_S_3, h_S_4, .int n, h_S_6, h_S_7, h_S_8, h_S_9])), (h_wc, .inl (k_wc, 36, .inl wc)), (h_wd, .inl (k_wd, 6, .inl wd)), (h_W, .inr (12, [.ref h_wc, .ref h_wd])), (h_M, .inr (13, [.ref h_S, h_M_1, h_M_2, h_M_3, .ref h_W, h_M_5, h_M_6, h_M_7, h_M_8, h_M_9]))] sz)) 3 18 (va_A [(h_ds, .inl (k_ds, 6, .inl ds)), (h_cs, .inl (k_cs, 36, .inl cs)), (h_S, .inr (11, [h_S_0, .ref h_ds, .ref h_cs, h_S_3, h_S_4, .int n, h_S_6, h_S_7, h_S_8, h_S_9])), (h_wc, .inl (k_wc, 36, .inl wc)), (h_wd, .inl (k_wd, 6, .inl wd)), (h_W, .inr (12, [.ref h_wc, .ref h_wd])), (h_M, .inr (13, [.ref h_S, h_M_1, h_M_2, h_M_3, .ref h_W, h_M_5, h_M_6, h_M_7, h_M_8, h_M_9]))] sz) := by
  refine va_MetW (cc := cL_real) (maxL := 4) (ret := (some .int)) (by decide) rfl ?_
  intro p e s m args below meth c s₁ B hml hv
  obtain ⟨rfl, hsz, hP, hK, hD0, hF⟩ := hv
  have hx := B.exec
  have hb := B.bytes
  have hr := B.returns
  have hts := atoms_spec (ws := wsL_real) B.pre
  have hown : s.vm.findClass RL = some m.cls := findClass_of_methodNamed B.named
  have hlocks := B.notSynchronized
  have htb := vx_table (x := yL_real) B (hts _ (List.mem_cons_self))
  subst hsz
  have hD := hD0.self (sz := s.heap.size)
  generalize hAe : va_A [(h_ds, .inl (k_ds, 6, .inl ds)), (h_cs, .inl (k_cs, 36, .inl cs)), (h_S, .inr (11, [h_S_0, .ref h_ds, .ref h_cs, h_S_3, h_S_4, .int n, h_S_6, h_S_7, h_S_8, h_S_9])), (h_wc, .inl (k_wc, 36, .inl wc)), (h_wd, .inl (k_wd, 6, .inl wd)), (h_W, .inr (12, [.ref h_wc, .ref h_wd])), (h_M, .inr (13, [.ref h_S, h_M_1, h_M_2, h_M_3, .ref h_W, h_M_5, h_M_6, h_M_7, h_M_8, h_M_9]))] s.heap.size = A at hD hF ⊢
  have hA : ∀ q : Nat, s.heap.size ≤ q → A q := fun q h => by rw [← hAe]; exact Or.inr h
  obtain ⟨H, hHe⟩ : ∃ H : Heap, H = s.heap := ⟨_, rfl⟩
  have hS : va_S A s.heap H [] := by rw [hHe]; exact va_S.rf
  have hP : va_P D vwCl [(h_ds, .inl (k_ds, 6, .inl ds)), (h_cs, .inl (k_cs, 36, .inl cs)), (h_S, .inr (11, [h_S_0, .ref h_ds, .ref h_cs, h_S_3, h_S_4, .int n, h_S_6, h_S_7, h_S_8, h_S_9])), (h_wc, .inl (k_wc, 36, .inl wc)), (h_wd, .inl (k_wd, 6, .inl wd)), (h_W, .inr (12, [.ref h_wc, .ref h_wd])), (h_M, .inr (13, [.ref h_S, h_M_1, h_M_2, h_M_3, .ref h_W, h_M_5, h_M_6, h_M_7, h_M_8, h_M_9]))] H := by rw [hHe]; exact hP
  rw [← hHe]
  have hl := lv_entry [.ref h_M, .int a2, .int a3] (n := 4) (Nat.le_of_ble_eq_true rfl)
  rw [lg_entry_eq]
  generalize (lg_sl [.ref h_M, .int a2, .int a3] ++ List.replicate (4 - (lg_sl [.ref h_M, .int a2, .int a3]).length) Slot.unset).toArray = ls at hl ⊢
  have hl : lv_has ls 4 [(0, .ref h_M), (1, .int a2), (2, .int a3)] := hl
  have hM : F_L_real ds cs n wc wd a2 a3 = (if (F_X10_real ds cs n wc wd a2 a3).1 = 0 then ((F_X10_real ds cs n wc wd a2 a3).2.1, ((F_X10_real ds cs n wc wd a2 a3).2.2.1), ((F_X10_real ds cs n wc wd a2 a3).2.2.2)) else (if (F_X10_real ds cs n wc wd a2 a3).1 = 2 then ((-1001), ((F_X10_real ds cs n wc wd a2 a3).2.2.1), ((F_X10_real ds cs n wc wd a2 a3).2.2.2)) else ((-1002), ((F_X10_real ds cs n wc wd a2 a3).2.2.1), ((F_X10_real ds cs n wc wd a2 a3).2.2.2)))) := rfl
  refine lv_aload_n hx hb dL_real_0 rfl (lv_at hl 0 rfl) ?_
  refine lv_iload_n hx hb dL_real_1 rfl (lv_at hl 1 rfl) ?_
  refine lv_iload_n hx hb dL_real_2 rfl (lv_at hl 2 rfl) ?_
  refine kz_ (wc := [(h_ds, .inl (k_ds, 6, .inl ds)), (h_cs, .inl (k_cs, 36, .inl cs)), (h_S, .inr (11, [h_S_0, .ref h_ds, .ref h_cs, h_S_3, h_S_4, .int n, h_S_6, h_S_7, h_S_8, h_S_9])), (h_wc, .inl (k_wc, 36, .inl wc)), (h_wd, .inl (k_wd, 6, .inl wd)), (h_W, .inr (12, [.ref h_wc, .ref h_wd])), (h_M, .inr (13, [.ref h_S, h_M_1, h_M_2, h_M_3, .ref h_W, h_M_5, h_M_6, h_M_7, h_M_8, h_M_9]))]) (wr := []) (vx_runV (As := [.int a2, .int a3]) (rest := []) ⟨hx, hb, hml, hown, hts⟩ (c_X10_real l hl0 D ad H.size h_ds h_cs h_S h_wc h_wd h_W h_M k_ds k_cs k_wc k_wd (h_S_0) (h_S_3) (h_S_4) (h_S_6) (h_S_7) (h_S_8) (h_S_9) (h_M_1) (h_M_2) (h_M_3) (h_M_5) (h_M_6) (h_M_7) (h_M_8) (h_M_9) ds cs n wc wd a2 a3 (by have z0 := hy0; omega)) (cwV 2 hts gL_real_X10_real rfl rfl rfl (by decide +kernel) ⟨Nat.le_of_ble_eq_true rfl, Nat.le_of_ble_eq_true rfl⟩) ⟨PC_.blind, va_recv hK hP (ci := 13) (q0 := 6) rfl rfl, PC_.pre hF hK hP hD hS hA [0, 1, 2, 3, 4, 5, 6] [0, 1, 2, 3] rfl (by decide) rfl⟩ rfl rfl hl.1 rfl (lv_room (Nat.le_of_ble_eq_true rfl)) dL_real_3 ⟨(Nat.le_of_ble_eq_true rfl), (Nat.le_of_ble_eq_true rfl)⟩) hK hP hD hS hA [0, 1, 2, 3, 4, 5, 6] [] [] rfl rfl (by decide) (by decide) rfl (fun qa_1 ka_1 ia H locs c_2 hP hD hK hS => ?_) (fun E9 ce q9 qa_1 ka_1 ia H locs hE hP hD hK hS hce hvm hcl => ?_)
  · rw [if_pos c_2] at hM
    have hP : va_P D vwCl [(h_ds, .inl (k_ds, 6, .inl ds)), (h_cs, .inl (k_cs, 36, .inl cs)), (h_S, .inr (11, [h_S_0, .ref h_ds, .ref h_cs, h_S_3, h_S_4, .int n, h_S_6, h_S_7, h_S_8, h_S_9])), (h_wc, .inl (k_wc, 36, .inl (F_X10_real ds cs n wc wd a2 a3).2.2.1)), (h_wd, .inl (k_wd, 6, .inl (F_X10_real ds cs n wc wd a2 a3).2.2.2)), (h_W, .inr (12, [.ref h_wc, .ref h_wd])), (h_M, .inr (13, [.ref h_S, h_M_1, h_M_2, h_M_3, .ref h_W, h_M_5, h_M_6, h_M_7, h_M_8, h_M_9]))] H := hP
    have hD : va_D A [(h_ds, .inl (k_ds, 6, .inl ds)), (h_cs, .inl (k_cs, 36, .inl cs)), (h_S, .inr (11, [h_S_0, .ref h_ds, .ref h_cs, h_S_3, h_S_4, .int n, h_S_6, h_S_7, h_S_8, h_S_9])), (h_wc, .inl (k_wc, 36, .inl (F_X10_real ds cs n wc wd a2 a3).2.2.1)), (h_wd, .inl (k_wd, 6, .inl (F_X10_real ds cs n wc wd a2 a3).2.2.2)), (h_W, .inr (12, [.ref h_wc, .ref h_wd])), (h_M, .inr (13, [.ref h_S, h_M_1, h_M_2, h_M_3, .ref h_W, h_M_5, h_M_6, h_M_7, h_M_8, h_M_9]))] := hD
    have hK : va_K D vwCl [(k_ds, .int), (k_cs, .int), (k_wc, .int), (k_wd, .int)] s := hK
    refine W.eq (g2 := F0 m 6 ls [.int (F_X10_real ds cs n wc wd a2 a3).2.1]) rfl ?_
    refine W.widen (k := 3) (n := 18) (Nat.le_of_ble_eq_true rfl) (Nat.le_of_ble_eq_true rfl) ?_
    exact W.iret (v := (F_X10_real ds cs n wc wd a2 a3).2.1) hx hb hr (QG_.mk (fun _ => 0) (fun _ => 0) (fun _ => 0) [0, 1, 2, 3, 4, 5, 6] [0, 1, 2, 3] hP hD hK hS (by rw [hM]) trivial (by rw [hM]; rfl) (by decide) rfl) hS.2.2 dL_real_6
  · rcases hE with ⟨rfl, c_2⟩ | ⟨rfl, c_2⟩
    · have hP : va_P D vwCl [(h_ds, .inl (k_ds, 6, .inl ds)), (h_cs, .inl (k_cs, 36, .inl cs)), (h_S, .inr (11, [h_S_0, .ref h_ds, .ref h_cs, h_S_3, h_S_4, .int n, h_S_6, h_S_7, h_S_8, h_S_9])), (h_wc, .inl (k_wc, 36, .inl (F_X10_real ds cs n wc wd a2 a3).2.2.1)), (h_wd, .inl (k_wd, 6, .inl (F_X10_real ds cs n wc wd a2 a3).2.2.2)), (h_W, .inr (12, [.ref h_wc, .ref h_wd])), (h_M, .inr (13, [.ref h_S, h_M_1, h_M_2, h_M_3, .ref h_W, h_M_5, h_M_6, h_M_7, h_M_8, h_M_9]))] H := hP
      have hD : va_D A [(h_ds, .inl (k_ds, 6, .inl ds)), (h_cs, .inl (k_cs, 36, .inl cs)), (h_S, .inr (11, [h_S_0, .ref h_ds, .ref h_cs, h_S_3, h_S_4, .int n, h_S_6, h_S_7, h_S_8, h_S_9])), (h_wc, .inl (k_wc, 36, .inl (F_X10_real ds cs n wc wd a2 a3).2.2.1)), (h_wd, .inl (k_wd, 6, .inl (F_X10_real ds cs n wc wd a2 a3).2.2.2)), (h_W, .inr (12, [.ref h_wc, .ref h_wd])), (h_M, .inr (13, [.ref h_S, h_M_1, h_M_2, h_M_3, .ref h_W, h_M_5, h_M_6, h_M_7, h_M_8, h_M_9]))] := hD
      have hK : va_K D vwCl [(k_ds, .int), (k_cs, .int), (k_wc, .int), (k_wd, .int)] s := hK
      rw [if_neg (show ¬ (F_X10_real ds cs n wc wd a2 a3).1 = 0 from by rw [c_2]; decide)] at hM
      rw [if_pos c_2] at hM
      refine vx_catch (own := RL) (name := "java/lang/IndexOutOfBoundsException") (E := "java/lang/IndexOutOfBoundsException") hown [] (⟨0, 6, 7, 36⟩ : ExceptionTableEntry) [(⟨0, 6, 12, 43⟩ : ExceptionTableEntry)] (htb.trans rfl) (fun z hz => by cases hz) (by decide) (by decide) (hts (.classLink RL 36 "java/lang/IndexOutOfBoundsException") (List.mem_of_getElem? (i := 1) (by decide +kernel))) (fxk_ hF "java/lang/IndexOutOfBoundsException" "java/lang/IndexOutOfBoundsException") hce hvm hcl ?_
      refine W.eq (g2 := F0 m 7 ls [.ref q9]) rfl ?_
      refine lv_astore_n (lv' := [(3, .ref q9), (0, .ref h_M), (1, .int a2), (2, .int a3)]) hx hb dL_real_7 rfl hl (by decide) rfl (fun ls hl => ?_)
      refine lv_sipush (v := (-1001)) hx hb dL_real_8 (by decide +kernel) ?_
      refine W.widen (k := 3) (n := 18) (Nat.le_of_ble_eq_true rfl) (Nat.le_of_ble_eq_true rfl) ?_
      exact W.iret (v := (-1001)) hx hb hr (QG_.mk (fun _ => 0) (fun _ => 0) (fun _ => 0) [0, 1, 2, 3, 4, 5, 6] [0, 1, 2, 3] hP hD hK hS (by rw [hM]) trivial (by rw [hM]; rfl) (by decide) rfl) hS.2.2 dL_real_11
    · have hP : va_P D vwCl [(h_ds, .inl (k_ds, 6, .inl ds)), (h_cs, .inl (k_cs, 36, .inl cs)), (h_S, .inr (11, [h_S_0, .ref h_ds, .ref h_cs, h_S_3, h_S_4, .int n, h_S_6, h_S_7, h_S_8, h_S_9])), (h_wc, .inl (k_wc, 36, .inl (F_X10_real ds cs n wc wd a2 a3).2.2.1)), (h_wd, .inl (k_wd, 6, .inl (F_X10_real ds cs n wc wd a2 a3).2.2.2)), (h_W, .inr (12, [.ref h_wc, .ref h_wd])), (h_M, .inr (13, [.ref h_S, h_M_1, h_M_2, h_M_3, .ref h_W, h_M_5, h_M_6, h_M_7, h_M_8, h_M_9]))] H := hP
      have hD : va_D A [(h_ds, .inl (k_ds, 6, .inl ds)), (h_cs, .inl (k_cs, 36, .inl cs)), (h_S, .inr (11, [h_S_0, .ref h_ds, .ref h_cs, h_S_3, h_S_4, .int n, h_S_6, h_S_7, h_S_8, h_S_9])), (h_wc, .inl (k_wc, 36, .inl (F_X10_real ds cs n wc wd a2 a3).2.2.1)), (h_wd, .inl (k_wd, 6, .inl (F_X10_real ds cs n wc wd a2 a3).2.2.2)), (h_W, .inr (12, [.ref h_wc, .ref h_wd])), (h_M, .inr (13, [.ref h_S, h_M_1, h_M_2, h_M_3, .ref h_W, h_M_5, h_M_6, h_M_7, h_M_8, h_M_9]))] := hD
      have hK : va_K D vwCl [(k_ds, .int), (k_cs, .int), (k_wc, .int), (k_wd, .int)] s := hK
      rw [if_neg (show ¬ (F_X10_real ds cs n wc wd a2 a3).1 = 0 from by rw [c_2]; decide)] at hM
      rw [if_neg (show ¬ (F_X10_real ds cs n wc wd a2 a3).1 = 2 from by rw [c_2]; decide)] at hM
      refine vx_catch (own := RL) (name := "java/util/NoSuchElementException") (E := "java/util/NoSuchElementException") hown [(⟨0, 6, 7, 36⟩ : ExceptionTableEntry)] (⟨0, 6, 12, 43⟩ : ExceptionTableEntry) [] (htb.trans rfl) (List.forall_mem_cons.mpr ⟨(Or.inr ⟨by decide, "java/lang/IndexOutOfBoundsException", (hts (.classLink RL 36 "java/lang/IndexOutOfBoundsException") (List.mem_of_getElem? (i := 1) (by decide +kernel))), fxd_ hF "java/util/NoSuchElementException" "java/lang/IndexOutOfBoundsException"⟩), (fun z hz => absurd hz List.not_mem_nil)⟩) (by decide) (by decide) (fxl_ hF (43, "java/util/NoSuchElementException")) (fxk_ hF "java/util/NoSuchElementException" "java/util/NoSuchElementException") hce hvm hcl ?_
      refine W.eq (g2 := F0 m 12 ls [.ref q9]) rfl ?_
      refine lv_astore_n (lv' := [(3, .ref q9), (0, .ref h_M), (1, .int a2), (2, .int a3)]) hx hb dL_real_12 rfl hl (by decide) rfl (fun ls hl => ?_)
      refine lv_sipush (v := (-1002)) hx hb dL_real_13 (by decide +kernel) ?_
      refine W.widen (k := 3) (n := 18) (Nat.le_of_ble_eq_true rfl) (Nat.le_of_ble_eq_true rfl) ?_
      exact W.iret (v := (-1002)) hx hb hr (QG_.mk (fun _ => 0) (fun _ => 0) (fun _ => 0) [0, 1, 2, 3, 4, 5, 6] [0, 1, 2, 3] hP hD hK hS (by rw [hM]) trivial (by rw [hM]; rfl) (by decide) rfl) hS.2.2 dL_real_16
def F_L_at (ar1 : Nat → Int32) (len1 : Nat) (a2 : Int32) : Int32 := (if (nI len1) ≤ a2 then 0 else (ar1 (ix a2)))
set_option maxHeartbeats 4000000 in
set_option maxRecDepth 100000 in
theorem c_L_at (l : Launch) (hl0 : l.stackTraces = false) (D : va_G) (ad : Nat → Nat) (sz : Nat) (h_ar1 : Nat) (k_ar1 : ClassId) (len1 : Nat) (ar1 : Nat → Int32) (a2 : Int32) (hy0 : len1 ≤ 260) (hy1 : 0 ≤ a2.toInt) : Met l yL_at wsL_at ({ frames := 0, cells := 0, slots := 0, locals := 0 }) (PR_ D ad [(h_ar1, .inl (k_ar1, len1, .inl ar1))] [(k_ar1, .int)] sz [.ref h_ar1, .int a2]) (QR_ (.int (F_L_at ar1 len1 a2)) (va_A [] sz)) 0 0 (va_A [] sz) := by
  refine Met.ofW (cc := cL_at) (maxL := 2) (ret := (some .int)) (by decide) rfl ?_
  intro p e s m args below meth c s₁ B hml hv
  obtain ⟨rfl, hsz, hP, hK, hF⟩ := hv
  have hx := B.exec
  have hb := B.bytes
  have hr := B.returns
  have hts := atoms_spec (ws := wsL_at) B.pre
  have hown : s.vm.findClass RL = some m.cls := findClass_of_methodNamed B.named
  have hlocks := B.notSynchronized
  subst hsz
  generalize hAe : va_A [] s.heap.size = A at hF ⊢
  have hA : ∀ q : Nat, s.heap.size ≤ q → A q := fun q h => by rw [← hAe]; exact Or.inr h
  obtain ⟨H, hHe⟩ : ∃ H : Heap, H = s.heap := ⟨_, rfl⟩
  have hS : va_S A s.heap H [] := by rw [hHe]; exact va_S.rf
  have hP : va_P D vwCl [(h_ar1, .inl (k_ar1, len1, .inl ar1))] H := by rw [hHe]; exact hP
  rw [← hHe]
  have hl := lv_entry [.ref h_ar1, .int a2] (n := 2) (Nat.le_of_ble_eq_true rfl)
  rw [lg_entry_eq]
  generalize (lg_sl [.ref h_ar1, .int a2] ++ List.replicate (2 - (lg_sl [.ref h_ar1, .int a2]).length) Slot.unset).toArray = ls at hl ⊢
  have hl : lv_has ls 2 [(0, .ref h_ar1), (1, .int a2)] := hl
  have hM : F_L_at ar1 len1 a2 = (if (nI len1) ≤ a2 then 0 else (ar1 (ix a2))) := rfl
  refine lv_iload_n hx hb dL_at_0 rfl (lv_at hl 1 rfl) ?_
  refine lv_aload_n hx hb dL_at_1 rfl (lv_at hl 0 rfl) ?_
  refine va_alen (v := (nI len1)) hx hb hK hP 0 0 rfl rfl rfl dL_at_2 ?_
  refine lv_icmp_ge (tgt := 12) hx hb dL_at_3 (by decide) (fun c_1 => ?_) (fun c_1 => ?_)
  · rw [if_pos c_1] at hM
    refine lv_iconst (v := 0) hx hb dL_at_12 (by decide) ?_
    refine W.widen (k := 0) (n := 0) (Nat.le_of_ble_eq_true rfl) (Nat.le_of_ble_eq_true rfl) ?_
    exact W.iret (v := 0) hx hb hr (QR_.mk hS (by rw [hM])) hS.2.2 dL_at_13
  · rw [if_neg c_1] at hM
    refine lv_aload_n hx hb dL_at_6 rfl (lv_at hl 0 rfl) ?_
    refine lv_iload_n hx hb dL_at_7 rfl (lv_at hl 1 rfl) ?_
    refine va_iald hx hb hK hP 0 0 rfl rfl (vinI (by have y0 := f_nle c_1; have z0 := hy0; have z1 := hy1; have b1670 := Int32.toInt_lt (a2); have d1670 := Int32.le_toInt (a2); have w0 := nI_toInt (n := len1) (by omega); omega) (by have y0 := f_nle c_1; have z0 := hy0; have z1 := hy1; have b1670 := Int32.toInt_lt (a2); have d1670 := Int32.le_toInt (a2); have w0 := nI_toInt (n := len1) (by omega); omega)) dL_at_8 ?_
    refine kt_ (v := (ar1 (ix a2))) rfl ?_
    refine lv_goto (tgt := 13) hx hb dL_at_9 (by decide) ?_
    refine W.widen (k := 0) (n := 0) (Nat.le_of_ble_eq_true rfl) (Nat.le_of_ble_eq_true rfl) ?_
    exact W.iret (v := (ar1 (ix a2))) hx hb hr (QR_.mk hS (by rw [hM])) hS.2.2 dL_at_13
def F_L_some (a1 : Int32) (a2 : Int32) : Int32 := (if 0 ≤ (rmI a1 a2) then (rmI a1 a2) else ((rmI a1 a2) + a2))
set_option maxHeartbeats 4000000 in
set_option maxRecDepth 100000 in
theorem c_L_some (l : Launch) (hl0 : l.stackTraces = false) (D : va_G) (ad : Nat → Nat) (sz : Nat) (a1 : Int32) (a2 : Int32) (hy0 : 0 < a2.toInt) : Met l yL_some wsL_some ({ frames := 0, cells := 0, slots := 0, locals := 0 }) (PR_ D ad [] [] sz [.int a1, .int a2]) (QR_ (.int (F_L_some a1 a2)) (va_A [] sz)) 0 0 (va_A [] sz) := by
  refine Met.ofW (cc := cL_some) (maxL := 3) (ret := (some .int)) (by decide) rfl ?_
  intro p e s m args below meth c s₁ B hml hv
  obtain ⟨rfl, hsz, hP, hK, hF⟩ := hv
  have hx := B.exec
  have hb := B.bytes
  have hr := B.returns
  have hts := atoms_spec (ws := wsL_some) B.pre
  have hown : s.vm.findClass RL = some m.cls := findClass_of_methodNamed B.named
  have hlocks := B.notSynchronized
  subst hsz
  generalize hAe : va_A [] s.heap.size = A at hF ⊢
  have hA : ∀ q : Nat, s.heap.size ≤ q → A q := fun q h => by rw [← hAe]; exact Or.inr h
  obtain ⟨H, hHe⟩ : ∃ H : Heap, H = s.heap := ⟨_, rfl⟩
  have hS : va_S A s.heap H [] := by rw [hHe]; exact va_S.rf
  have hP : va_P D vwCl [] H := by rw [hHe]; exact hP
  rw [← hHe]
  have hl := lv_entry [.int a1, .int a2] (n := 3) (Nat.le_of_ble_eq_true rfl)
  rw [lg_entry_eq]
  generalize (lg_sl [.int a1, .int a2] ++ List.replicate (3 - (lg_sl [.int a1, .int a2]).length) Slot.unset).toArray = ls at hl ⊢
  have hl : lv_has ls 3 [(0, .int a1), (1, .int a2)] := hl
  have hM : F_L_some a1 a2 = (if 0 ≤ (rmI a1 a2) then (rmI a1 a2) else ((rmI a1 a2) + a2)) := rfl
  refine lv_iload_n hx hb dL_some_0 rfl (lv_at hl 0 rfl) ?_
  refine lv_iload_n hx hb dL_some_1 rfl (lv_at hl 1 rfl) ?_
  refine lv_irem hx hb dL_some_2 (ne0_ (by have z0 := hy0; have b1674 := Int32.toInt_lt (a2); have d1674 := Int32.le_toInt (a2); omega)) ?_
  refine kt_ (v := (rmI a1 a2)) rfl ?_
  refine lv_istore_n (lv' := [(2, .int (rmI a1 a2)), (0, .int a1), (1, .int a2)]) hx hb dL_some_3 rfl hl (by decide) rfl (fun ls hl => ?_)
  refine lv_iload_n hx hb dL_some_4 rfl (lv_at hl 0 rfl) ?_
  refine lv_if_ge (tgt := 14) hx hb dL_some_5 (by decide) (fun c_1 => ?_) (fun c_1 => ?_)
  · rw [if_pos c_1] at hM
    refine lv_iload_n hx hb dL_some_14 rfl (lv_at hl 0 rfl) ?_
    refine W.widen (k := 0) (n := 0) (Nat.le_of_ble_eq_true rfl) (Nat.le_of_ble_eq_true rfl) ?_
    exact W.iret (v := (rmI a1 a2)) hx hb hr (QR_.mk hS (by rw [hM])) hS.2.2 dL_some_15
  · rw [if_neg c_1] at hM
    refine lv_iload_n hx hb dL_some_8 rfl (lv_at hl 0 rfl) ?_
    refine lv_iload_n hx hb dL_some_9 rfl (lv_at hl 2 rfl) ?_
    refine lv_iadd hx hb dL_some_10 ?_
    refine lv_goto (tgt := 15) hx hb dL_some_11 (by decide) ?_
    refine W.widen (k := 0) (n := 0) (Nat.le_of_ble_eq_true rfl) (Nat.le_of_ble_eq_true rfl) ?_
    exact W.iret (v := ((rmI a1 a2) + a2)) hx hb hr (QR_.mk hS (by rw [hM])) hS.2.2 dL_some_15
