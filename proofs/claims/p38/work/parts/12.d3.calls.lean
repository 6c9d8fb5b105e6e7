def K_L_busiest_2 (M : MS) (y2 : Nat × Int32) : Int32 × MS × Nat × Nat := (adc 1 6 (if y2.1 = 0 then (y2.2, M, 0, 0) else ((-1001), M, 0, 0)))
def F_L_busiest (M : MS) (a1 : Int32) : Int32 × MS × Nat × Nat := (K_L_busiest_2 M (FF_X10_busiest M a1))
set_option maxHeartbeats 4000000 in
set_option maxRecDepth 100000 in
theorem bl_L_busiest (l : Launch) (hl0 : l.stackTraces = false) (D : va_G) (ad : Nat → Nat) (sz : Nat) (b : BX) (hBL : BL_ b) (a0 : Nat) (hb9 : b.1 79 = a0) (M : MS) (hM9 : b.2.2.2 = M) (Bd : Nat) (hXI : XI Bd M) (hBd : Bd + 0 ≤ 900000) (a1 : Int32) : Met l yL_busiest wsL_busiest ({ frames := 7, cells := (F_L_busiest M a1).2.2.1, slots := (F_L_busiest M a1).2.2.2, locals := 167 }) (PC_ D ad (BWW ad b) (BWT b) sz [.ref a0, .int a1]) (QB_ D (fun _ : BX => some (.int (F_L_busiest M a1).1)) (fun b' => b'.2.2.2 = (F_L_busiest M a1).2.1 ∧ b'.1 79 = a0 ∧ BL_ b' ∧ XI (Bd + 0) (F_L_busiest M a1).2.1) (BWW ad) BWT (va_A (BWW ad b) sz)) (F_L_busiest M a1).2.2.1 (F_L_busiest M a1).2.2.2 (va_A (BWW ad b) sz) := by
  refine va_MetW (cc := cL_busiest) (maxL := 3) (ret := (some .int)) (by decide) rfl ?_
  intro p e s m args below meth c s₁ B hml hv
  obtain ⟨rfl, hsz, hP, hK, hD0, hF⟩ := hv
  have hx := B.exec
  have hb := B.bytes
  have hr := B.returns
  have hts := atoms_spec (ws := wsL_busiest) B.pre
  have hown : s.vm.findClass RL = some m.cls := findClass_of_methodNamed B.named
  have hlocks := B.notSynchronized
  have htb := vx_table (x := yL_busiest) B (hts _ (List.mem_cons_self))
  subst hsz
  have hD := hD0.self (sz := s.heap.size)
  generalize hAe : va_A (BWW ad b) s.heap.size = A at hD hF ⊢
  have hA : ∀ q : Nat, s.heap.size ≤ q → A q := fun q h => by rw [← hAe]; exact Or.inr h
  obtain ⟨H, hHe⟩ : ∃ H : Heap, H = s.heap := ⟨_, rfl⟩
  have hS : va_S A s.heap H [] := by rw [hHe]; exact va_S.rf
  have hP : va_P D vwCl ([] ++ BWW ad b) H := by rw [hHe]; exact hP
  have hD : va_D A ([] ++ BWW ad b) := hD
  have hK : va_K D vwCl ([] ++ BWT b) s := hK
  rw [← hHe]
  have hl := lv_entry [.ref a0, .int a1] (n := 3) (Nat.le_of_ble_eq_true rfl)
  rw [lg_entry_eq]
  generalize (lg_sl [.ref a0, .int a1] ++ List.replicate (3 - (lg_sl [.ref a0, .int a1]).length) Slot.unset).toArray = ls at hl ⊢
  have hl : lv_has ls 3 [(0, .ref a0), (1, .int a1)] := hl
  generalize hF9 : F_L_busiest M a1 = FF9
  have hM : FF9 = (adc 0 0 (K_L_busiest_2 M (FF_X10_busiest M a1))) := hF9.symm.trans (adc_0 _).symm
  refine lv_aload_n hx hb dL_busiest_0 rfl (lv_at hl 0 rfl) ?_
  refine lv_iload_n hx hb dL_busiest_1 rfl (lv_at hl 1 rfl) ?_
  have hcon := (b_X10_busiest l hl0 D ad H.size b hBL a1 (by rw [hM9]; exact xh_X10_busiest hXI (show Bd ≤ 900000 from (by have h9 := (show Bd ≤ 900000 from (by have z0 := hBd; omega)); omega)) a1))
  rw [hM9, hb9] at hcon
  generalize hy_1 : (FF_X10_busiest M a1) = y2 at hcon hM
  have hM : FF9 = (adc 0 0 (adc 1 6 (if y2.1 = 0 then (y2.2, M, 0, 0) else ((-1001), M, 0, 0)))) := hM
  refine kzwb_ [] [] (vx_runV (As := [.int a1]) (rest := []) ⟨hx, hb, hml, hown, hts⟩ hcon (cwV 1 hts gL_busiest_X10_busiest rfl rfl rfl (by decide +kernel) ⟨Nat.le_of_ble_eq_true rfl, Nat.le_of_ble_eq_true rfl⟩) ⟨PC_.blind, (by rw [← hb9]; exact bw_recv (X := []) (Y := []) hK hP), lw_pre (X := []) (Y := []) hF hK hP hD hS hA⟩ rfl rfl hl.1 rfl (lv_room (Nat.le_of_ble_eq_true rfl)) dL_busiest_2 ⟨(adc_r1 hM), (adc_s1 hM)⟩) hK hP hD hS hA (fun b_1 H locs hpo hP hD hK hS => ?_) (fun E9 ce q9 b_1 H locs hE hP hD hK hS hce hvm hcl => ?_)
  · have hM : FF9 = (adc (0 + 1) (0 + 6) (if y2.1 = 0 then (y2.2, M, 0, 0) else ((-1001), M, 0, 0))) := hM.trans (adc_adc _ _ _ _ _)
    obtain ⟨hst, hM9_1, hb9_1, hBL_1⟩ := hpo
    rw [if_pos hst] at hM
    have hXI_1 := hXI
    have hM9_1 : b_1.2.2.2 = M := hM9_1
    have hP : va_P D vwCl ([] ++ BWW ad b_1) H := hP
    have hD : va_D A ([] ++ BWW ad b_1) := hD
    have hK : va_K D vwCl ([] ++ BWT b_1) s := hK
    refine W.eq (g2 := F0 m 5 ls [.int y2.2]) rfl ?_
    refine W.widen (k := (FF9).2.2.1) (n := (FF9).2.2.2) (Nat.le_of_eq (by rw [hM]; first | done | rfl)) (Nat.le_of_eq (by rw [hM]; first | done | rfl)) ?_
    exact W.iret (v := y2.2) hx hb hr (lw_ret (X := []) (Y := []) b_1 hP hD hK hS (by rw [hM]; first | done | rfl) ⟨(by rw [hM]; exact hM9_1), hb9_1, hBL_1, (by rw [hM]; exact XI.mono hXI_1 (show Bd ≤ Bd + 0 from (by have z0 := hBd; omega)))⟩) hS.2.2 dL_busiest_5
  · rcases hE with ⟨rfl, hst, hM9_1, hb9_1, hBL_1⟩
    · have hM : FF9 = (adc (0 + 1) (0 + 6) (if y2.1 = 0 then (y2.2, M, 0, 0) else ((-1001), M, 0, 0))) := hM.trans (adc_adc _ _ _ _ _)
      rw [if_neg (show ¬ y2.1 = 0 from by rw [hst]; decide)] at hM
      have hXI_1 := hXI
      have hM9_1 : b_1.2.2.2 = M := hM9_1
      have hP : va_P D vwCl ([] ++ BWW ad b_1) H := hP
      have hD : va_D A ([] ++ BWW ad b_1) := hD
      have hK : va_K D vwCl ([] ++ BWT b_1) s := hK
      refine vx_catch (own := RL) (name := "java/util/NoSuchElementException") (E := "java/util/NoSuchElementException") hown [] (⟨0, 5, 6, 43⟩ : ExceptionTableEntry) [] (htb.trans rfl) (fun z hz => by cases hz) (by decide) (by decide) (hts (.classLink RL 43 "java/util/NoSuchElementException") (List.mem_of_getElem? (i := 1) (by decide +kernel))) (fxk_ hF "java/util/NoSuchElementException" "java/util/NoSuchElementException") hce hvm hcl ?_
      refine W.eq (g2 := F0 m 6 ls [.ref q9]) rfl ?_
      refine lv_astore_n (lv' := [(2, .ref q9), (0, .ref a0), (1, .int a1)]) hx hb dL_busiest_6 rfl hl (by decide) rfl (fun ls hl => ?_)
      refine lv_sipush (v := (-1001)) hx hb dL_busiest_7 (by decide +kernel) ?_
      refine W.widen (k := (FF9).2.2.1) (n := (FF9).2.2.2) (Nat.le_of_eq (by rw [hM]; first | done | rfl)) (Nat.le_of_eq (by rw [hM]; first | done | rfl)) ?_
      exact W.iret (v := (-1001)) hx hb hr (lw_ret (X := []) (Y := []) b_1 hP hD hK hS (by rw [hM]; first | done | rfl) ⟨(by rw [hM]; exact hM9_1), hb9_1, hBL_1, (by rw [hM]; exact XI.mono hXI_1 (show Bd ≤ Bd + 0 from (by have z0 := hBd; omega)))⟩) hS.2.2 dL_busiest_10
def K_L_append_2 (M : MS) (y2 : Nat × Int32 × (Nat → Int32) × Int32) : Int32 × MS × Nat × Nat := (adc 1 6 (if y2.1 = 0 then (y2.2.1, (T_X10_append M y2), 0, 0) else ((-1001), (T_X10_append M y2), 0, 0)))
def F_L_append (M : MS) (a1 : Int32) : Int32 × MS × Nat × Nat := (K_L_append_2 M (FF_X10_append M a1))
set_option maxHeartbeats 4000000 in
set_option maxRecDepth 100000 in
theorem bl_L_append (l : Launch) (hl0 : l.stackTraces = false) (D : va_G) (ad : Nat → Nat) (sz : Nat) (b : BX) (hBL : BL_ b) (a0 : Nat) (hb9 : b.1 79 = a0) (M : MS) (hM9 : b.2.2.2 = M) (Bd : Nat) (hXI : XI Bd M) (hBd : Bd + 0 ≤ 900000) (a1 : Int32) : Met l yL_append wsL_append ({ frames := 7, cells := (F_L_append M a1).2.2.1, slots := (F_L_append M a1).2.2.2, locals := 123 }) (PC_ D ad (BWW ad b) (BWT b) sz [.ref a0, .int (ci_ a1)]) (QB_ D (fun _ : BX => some (.int (F_L_append M a1).1)) (fun b' => b'.2.2.2 = (F_L_append M a1).2.1 ∧ b'.1 79 = a0 ∧ BL_ b' ∧ XI (Bd + 0) (F_L_append M a1).2.1) (BWW ad) BWT (va_A (BWW ad b) sz)) (F_L_append M a1).2.2.1 (F_L_append M a1).2.2.2 (va_A (BWW ad b) sz) := by
  refine va_MetW (cc := cL_append) (maxL := 3) (ret := (some .int)) (by decide) rfl ?_
  intro p e s m args below meth c s₁ B hml hv
  obtain ⟨rfl, hsz, hP, hK, hD0, hF⟩ := hv
  have hx := B.exec
  have hb := B.bytes
  have hr := B.returns
  have hts := atoms_spec (ws := wsL_append) B.pre
  have hown : s.vm.findClass RL = some m.cls := findClass_of_methodNamed B.named
  have hlocks := B.notSynchronized
  have htb := vx_table (x := yL_append) B (hts _ (List.mem_cons_self))
  subst hsz
  have hD := hD0.self (sz := s.heap.size)
  generalize hAe : va_A (BWW ad b) s.heap.size = A at hD hF ⊢
  have hA : ∀ q : Nat, s.heap.size ≤ q → A q := fun q h => by rw [← hAe]; exact Or.inr h
  obtain ⟨H, hHe⟩ : ∃ H : Heap, H = s.heap := ⟨_, rfl⟩
  have hS : va_S A s.heap H [] := by rw [hHe]; exact va_S.rf
  have hP : va_P D vwCl ([] ++ BWW ad b) H := by rw [hHe]; exact hP
  have hD : va_D A ([] ++ BWW ad b) := hD
  have hK : va_K D vwCl ([] ++ BWT b) s := hK
  rw [← hHe]
  have hl := lv_entry [.ref a0, .int (ci_ a1)] (n := 3) (Nat.le_of_ble_eq_true rfl)
  rw [lg_entry_eq]
  generalize (lg_sl [.ref a0, .int (ci_ a1)] ++ List.replicate (3 - (lg_sl [.ref a0, .int (ci_ a1)]).length) Slot.unset).toArray = ls at hl ⊢
  have hl : lv_has ls 3 [(0, .ref a0), (1, .int (ci_ a1))] := hl
  generalize hF9 : F_L_append M a1 = FF9
  have hM : FF9 = (adc 0 0 (K_L_append_2 M (FF_X10_append M a1))) := hF9.symm.trans (adc_0 _).symm
  refine lv_aload_n hx hb dL_append_0 rfl (lv_at hl 0 rfl) ?_
  refine lv_iload_n hx hb dL_append_1 rfl (lv_at hl 1 rfl) ?_
  have hcon := (b_X10_append l hl0 D ad H.size b hBL a1 (by rw [hM9]; exact xh_X10_append hXI (show Bd ≤ 900000 from (by have h9 := (show Bd ≤ 900000 from (by have z0 := hBd; omega)); omega)) a1))
  rw [hM9, hb9] at hcon
  generalize hy_1 : (FF_X10_append M a1) = y2 at hcon hM
  have hM : FF9 = (adc 0 0 (adc 1 6 (if y2.1 = 0 then (y2.2.1, (T_X10_append M y2), 0, 0) else ((-1001), (T_X10_append M y2), 0, 0)))) := hM
  refine kzwb_ [] [] (vx_runV (As := [.int (ci_ a1)]) (rest := []) ⟨hx, hb, hml, hown, hts⟩ hcon (cwV 1 hts gL_append_X10_append rfl rfl rfl (by decide +kernel) ⟨Nat.le_of_ble_eq_true rfl, Nat.le_of_ble_eq_true rfl⟩) ⟨PC_.blind, (by rw [← hb9]; exact bw_recv (X := []) (Y := []) hK hP), lw_pre (X := []) (Y := []) hF hK hP hD hS hA⟩ rfl rfl hl.1 rfl (lv_room (Nat.le_of_ble_eq_true rfl)) dL_append_2 ⟨(adc_r1 hM), (adc_s1 hM)⟩) hK hP hD hS hA (fun b_1 H locs hpo hP hD hK hS => ?_) (fun E9 ce q9 b_1 H locs hE hP hD hK hS hce hvm hcl => ?_)
  · have hM : FF9 = (adc (0 + 1) (0 + 6) (if y2.1 = 0 then (y2.2.1, (T_X10_append M y2), 0, 0) else ((-1001), (T_X10_append M y2), 0, 0))) := hM.trans (adc_adc _ _ _ _ _)
    obtain ⟨hst, hM9_1, hb9_1, hen, hBL_1⟩ := hpo
    rw [if_pos hst] at hM
    have hXI_1 : XI Bd (T_X10_append M y2) := by rw [← hy_1]; exact xt_T_X10_append hXI (show Bd ≤ 900000 from (by have h9 := (show Bd ≤ 900000 from (by have z0 := hBd; omega)); omega)) a1 (by rw [hy_1]; exact hen)
    have hM9_1 : b_1.2.2.2 = (T_X10_append M y2) := hM9_1
    have hBL_1 : BL_ b_1 := hBL_1 hBL
    have hP : va_P D vwCl ([] ++ BWW ad b_1) H := hP
    have hD : va_D A ([] ++ BWW ad b_1) := hD
    have hK : va_K D vwCl ([] ++ BWT b_1) s := hK
    refine W.eq (g2 := F0 m 5 ls [.int y2.2.1]) rfl ?_
    refine W.widen (k := (FF9).2.2.1) (n := (FF9).2.2.2) (Nat.le_of_eq (by rw [hM]; first | done | rfl)) (Nat.le_of_eq (by rw [hM]; first | done | rfl)) ?_
    exact W.iret (v := y2.2.1) hx hb hr (lw_ret (X := []) (Y := []) b_1 hP hD hK hS (by rw [hM]; first | done | rfl) ⟨(by rw [hM]; exact hM9_1), hb9_1, hBL_1, (by rw [hM]; exact XI.mono hXI_1 (show Bd ≤ Bd + 0 from (by have z0 := hBd; omega)))⟩) hS.2.2 dL_append_5
  · rcases hE with ⟨rfl, hst, hM9_1, hb9_1, hen, hBL_1⟩
    · have hM : FF9 = (adc (0 + 1) (0 + 6) (if y2.1 = 0 then (y2.2.1, (T_X10_append M y2), 0, 0) else ((-1001), (T_X10_append M y2), 0, 0))) := hM.trans (adc_adc _ _ _ _ _)
      rw [if_neg (show ¬ y2.1 = 0 from by rw [hst]; decide)] at hM
      have hXI_1 : XI Bd (T_X10_append M y2) := by rw [← hy_1]; exact xt_T_X10_append hXI (show Bd ≤ 900000 from (by have h9 := (show Bd ≤ 900000 from (by have z0 := hBd; omega)); omega)) a1 (by rw [hy_1]; exact hen)
      have hM9_1 : b_1.2.2.2 = (T_X10_append M y2) := hM9_1
      have hBL_1 : BL_ b_1 := hBL_1 hBL
      have hP : va_P D vwCl ([] ++ BWW ad b_1) H := hP
      have hD : va_D A ([] ++ BWW ad b_1) := hD
      have hK : va_K D vwCl ([] ++ BWT b_1) s := hK
      refine vx_catch (own := RL) (name := "java/lang/IllegalStateException") (E := "java/lang/IllegalStateException") hown [] (⟨0, 5, 6, 95⟩ : ExceptionTableEntry) [] (htb.trans rfl) (fun z hz => by cases hz) (by decide) (by decide) (hts (.classLink RL 95 "java/lang/IllegalStateException") (List.mem_of_getElem? (i := 1) (by decide +kernel))) (fxk_ hF "java/lang/IllegalStateException" "java/lang/IllegalStateException") hce hvm hcl ?_
      refine W.eq (g2 := F0 m 6 ls [.ref q9]) rfl ?_
      refine lv_astore_n (lv' := [(2, .ref q9), (0, .ref a0), (1, .int (ci_ a1))]) hx hb dL_append_6 rfl hl (by decide) rfl (fun ls hl => ?_)
      refine lv_sipush (v := (-1001)) hx hb dL_append_7 (by decide +kernel) ?_
      refine W.widen (k := (FF9).2.2.1) (n := (FF9).2.2.2) (Nat.le_of_eq (by rw [hM]; first | done | rfl)) (Nat.le_of_eq (by rw [hM]; first | done | rfl)) ?_
      exact W.iret (v := (-1001)) hx hb hr (lw_ret (X := []) (Y := []) b_1 hP hD hK hS (by rw [hM]; first | done | rfl) ⟨(by rw [hM]; exact hM9_1), hb9_1, hBL_1, (by rw [hM]; exact XI.mono hXI_1 (show Bd ≤ Bd + 0 from (by have z0 := hBd; omega)))⟩) hS.2.2 dL_append_10
def K_L_commands_1 (M : MS) (y1 : Nat × Int32 × Nat × Int32 × (Nat → Int32) × (Nat → Int32) × (Nat → Int32) × Nat × (Nat → Int32) × Int32 × Int32 × Int32 × Int32 × Int32 × Int32 × Int32 × Int32 × Int32 × (Nat → Int32) × Int32 × Int32 × Nat × (Nat → Int32) × (Nat → Int32) × (Nat → Int32) × Nat × (Nat → Int32) × Int32 × Int32 × Int32 × Int32 × Int32 × Int32 × Int32 × Int32 × (Nat → Nat → Int32) × (Nat → Nat → Int32) × (Nat → Nat → Int32) × (Nat → Nat → Int32) × (Nat → Nat) × (Nat → Int32) × (Nat → Int32) × (Nat → Int32) × (Nat → Int32) × (Nat → Int32) × (Nat → Int32) × (Nat → Int32) × Int32 × Int32 × Int32 × Int32 × List PG × Nat × Nat) : Int32 × MS × Nat × Nat := (adc y1.2.2.2.2.2.2.2.2.2.2.2.2.2.2.2.2.2.2.2.2.2.2.2.2.2.2.2.2.2.2.2.2.2.2.2.2.2.2.2.2.2.2.2.2.2.2.2.2.2.2.2.2.1 y1.2.2.2.2.2.2.2.2.2.2.2.2.2.2.2.2.2.2.2.2.2.2.2.2.2.2.2.2.2.2.2.2.2.2.2.2.2.2.2.2.2.2.2.2.2.2.2.2.2.2.2.2.2 (if y1.1 = 0 then (y1.2.1, (T_X10_commands M y1), 0, 0) else (if y1.1 = 1 then ((-1002), (TX_X10_commands M y1), 0, 0) else ((-1001), (T_X10_commands M y1), 0, 0))))
def F_L_commands (M : MS) : Int32 × MS × Nat × Nat := (K_L_commands_1 M (FF_X10_commands M))
set_option maxHeartbeats 4000000 in
set_option maxRecDepth 100000 in
theorem bl_L_commands (l : Launch) (hl0 : l.stackTraces = false) (D : va_G) (ad : Nat → Nat) (sz : Nat) (b : BX) (hBL : BL_ b) (a0 : Nat) (hb9 : b.1 79 = a0) (M : MS) (hM9 : b.2.2.2 = M) (Bd : Nat) (hXI : XI Bd M) (hBd : Bd + 36600 ≤ 900000) : Met l yL_commands wsL_commands ({ frames := 13, cells := (F_L_commands M).2.2.1, slots := (F_L_commands M).2.2.2, locals := 355 }) (PC_ D ad (BWW ad b) (BWT b) sz [.ref a0]) (QB_ D (fun _ : BX => some (.int (F_L_commands M).1)) (fun b' => b'.2.2.2 = (F_L_commands M).2.1 ∧ b'.1 79 = a0 ∧ BL_ b' ∧ XI (Bd + 36600) (F_L_commands M).2.1) (BWW ad) BWT (va_A (BWW ad b) sz)) (F_L_commands M).2.2.1 (F_L_commands M).2.2.2 (va_A (BWW ad b) sz) := by
  refine va_MetW (cc := cL_commands) (maxL := 2) (ret := (some .int)) (by decide) rfl ?_
  intro p e s m args below meth c s₁ B hml hv
  obtain ⟨rfl, hsz, hP, hK, hD0, hF⟩ := hv
  have hx := B.exec
  have hb := B.bytes
  have hr := B.returns
  have hts := atoms_spec (ws := wsL_commands) B.pre
  have hown : s.vm.findClass RL = some m.cls := findClass_of_methodNamed B.named
  have hlocks := B.notSynchronized
  have htb := vx_table (x := yL_commands) B (hts _ (List.mem_cons_self))
  subst hsz
  have hD := hD0.self (sz := s.heap.size)
  generalize hAe : va_A (BWW ad b) s.heap.size = A at hD hF ⊢
  have hA : ∀ q : Nat, s.heap.size ≤ q → A q := fun q h => by rw [← hAe]; exact Or.inr h
  obtain ⟨H, hHe⟩ : ∃ H : Heap, H = s.heap := ⟨_, rfl⟩
  have hS : va_S A s.heap H [] := by rw [hHe]; exact va_S.rf
  have hP : va_P D vwCl ([] ++ BWW ad b) H := by rw [hHe]; exact hP
  have hD : va_D A ([] ++ BWW ad b) := hD
  have hK : va_K D vwCl ([] ++ BWT b) s := hK
  rw [← hHe]
  have hl := lv_entry [.ref a0] (n := 2) (Nat.le_of_ble_eq_true rfl)
  rw [lg_entry_eq]
  generalize (lg_sl [.ref a0] ++ List.replicate (2 - (lg_sl [.ref a0]).length) Slot.unset).toArray = ls at hl ⊢
  have hl : lv_has ls 2 [(0, .ref a0)] := hl
  generalize hF9 : F_L_commands M = FF9
  have hM : FF9 = (adc 0 0 (K_L_commands_1 M (FF_X10_commands M))) := hF9.symm.trans (adc_0 _).symm
  refine lv_aload_n hx hb dL_commands_0 rfl (lv_at hl 0 rfl) ?_
  have hcon := (b_X10_commands l hl0 D ad H.size b hBL (by rw [hM9]; exact xh_X10_commands hXI (show Bd ≤ 900000 from (by have h9 := (show (Bd + 36600) ≤ 900000 from (by have z0 := hBd; omega)); omega))))
  rw [hM9, hb9] at hcon
  generalize hy_1 : (FF_X10_commands M) = y1 at hcon hM
  have hM : FF9 = (adc 0 0 (adc y1.2.2.2.2.2.2.2.2.2.2.2.2.2.2.2.2.2.2.2.2.2.2.2.2.2.2.2.2.2.2.2.2.2.2.2.2.2.2.2.2.2.2.2.2.2.2.2.2.2.2.2.2.1 y1.2.2.2.2.2.2.2.2.2.2.2.2.2.2.2.2.2.2.2.2.2.2.2.2.2.2.2.2.2.2.2.2.2.2.2.2.2.2.2.2.2.2.2.2.2.2.2.2.2.2.2.2.2 (if y1.1 = 0 then (y1.2.1, (T_X10_commands M y1), 0, 0) else (if y1.1 = 1 then ((-1002), (TX_X10_commands M y1), 0, 0) else ((-1001), (T_X10_commands M y1), 0, 0))))) := hM
  refine kzwb_ [] [] (vx_runV (As := []) (rest := []) ⟨hx, hb, hml, hown, hts⟩ hcon (cwV 0 hts gL_commands_X10_commands rfl rfl rfl (by decide +kernel) ⟨Nat.le_of_ble_eq_true rfl, Nat.le_of_ble_eq_true rfl⟩) ⟨PC_.blind, (by rw [← hb9]; exact bw_recv (X := []) (Y := []) hK hP), lw_pre (X := []) (Y := []) hF hK hP hD hS hA⟩ rfl rfl hl.1 rfl (lv_room (Nat.le_of_ble_eq_true rfl)) dL_commands_1 ⟨(adc_r1 hM), (adc_s1 hM)⟩) hK hP hD hS hA (fun b_1 H locs hpo hP hD hK hS => ?_) (fun E9 ce q9 b_1 H locs hE hP hD hK hS hce hvm hcl => ?_)
  · have hM : FF9 = (adc (0 + y1.2.2.2.2.2.2.2.2.2.2.2.2.2.2.2.2.2.2.2.2.2.2.2.2.2.2.2.2.2.2.2.2.2.2.2.2.2.2.2.2.2.2.2.2.2.2.2.2.2.2.2.2.1) (0 + y1.2.2.2.2.2.2.2.2.2.2.2.2.2.2.2.2.2.2.2.2.2.2.2.2.2.2.2.2.2.2.2.2.2.2.2.2.2.2.2.2.2.2.2.2.2.2.2.2.2.2.2.2.2) (if y1.1 = 0 then (y1.2.1, (T_X10_commands M y1), 0, 0) else (if y1.1 = 1 then ((-1002), (TX_X10_commands M y1), 0, 0) else ((-1001), (T_X10_commands M y1), 0, 0)))) := hM.trans (adc_adc _ _ _ _ _)
    obtain ⟨hst, hM9_1, hb9_1, hen, hBL_1⟩ := hpo
    rw [if_pos hst] at hM
    have hXI_1 : XI (Bd + 36600) (T_X10_commands M y1) := by rw [← hy_1]; exact xt_T_X10_commands hXI (show Bd ≤ 900000 from (by have h9 := (show (Bd + 36600) ≤ 900000 from (by have z0 := hBd; omega)); omega)) (by rw [hy_1]; exact hen) (by rw [hy_1, hst]; decide)
    have hM9_1 : b_1.2.2.2 = (T_X10_commands M y1) := hM9_1
    have hP : va_P D vwCl ([] ++ BWW ad b_1) H := hP
    have hD : va_D A ([] ++ BWW ad b_1) := hD
    have hK : va_K D vwCl ([] ++ BWT b_1) s := hK
    refine W.eq (g2 := F0 m 4 ls [.int y1.2.1]) rfl ?_
    refine W.widen (k := (FF9).2.2.1) (n := (FF9).2.2.2) (Nat.le_of_eq (by rw [hM]; first | done | rfl)) (Nat.le_of_eq (by rw [hM]; first | done | rfl)) ?_
    exact W.iret (v := y1.2.1) hx hb hr (lw_ret (X := []) (Y := []) b_1 hP hD hK hS (by rw [hM]; first | done | rfl) ⟨(by rw [hM]; exact hM9_1), hb9_1, hBL_1, (by rw [hM]; exact XI.mono hXI_1 (show (Bd + 36600) ≤ Bd + 36600 from (by have z0 := hBd; omega)))⟩) hS.2.2 dL_commands_4
  · rcases hE with ⟨rfl, hst, hM9_1, hb9_1, hen, hBL_1⟩ | ⟨rfl, hst, hM9_1, hb9_1, hen, hBL_1⟩
    · have hM : FF9 = (adc (0 + y1.2.2.2.2.2.2.2.2.2.2.2.2.2.2.2.2.2.2.2.2.2.2.2.2.2.2.2.2.2.2.2.2.2.2.2.2.2.2.2.2.2.2.2.2.2.2.2.2.2.2.2.2.1) (0 + y1.2.2.2.2.2.2.2.2.2.2.2.2.2.2.2.2.2.2.2.2.2.2.2.2.2.2.2.2.2.2.2.2.2.2.2.2.2.2.2.2.2.2.2.2.2.2.2.2.2.2.2.2.2) (if y1.1 = 0 then (y1.2.1, (T_X10_commands M y1), 0, 0) else (if y1.1 = 1 then ((-1002), (TX_X10_commands M y1), 0, 0) else ((-1001), (T_X10_commands M y1), 0, 0)))) := hM.trans (adc_adc _ _ _ _ _)
      rw [if_neg (show ¬ y1.1 = 0 from by rw [hst]; decide)] at hM
      rw [if_pos hst] at hM
      have hXI_1 : XI (Bd + 36600) (TX_X10_commands M y1) := by rw [← hy_1]; exact xt_TX_X10_commands hXI (show Bd ≤ 900000 from (by have h9 := (show (Bd + 36600) ≤ 900000 from (by have z0 := hBd; omega)); omega)) (by rw [hy_1]; exact hen) (by rw [hy_1, hst])
      have hM9_1 : b_1.2.2.2 = (TX_X10_commands M y1) := hM9_1
      have hP : va_P D vwCl ([] ++ BWW ad b_1) H := hP
      have hD : va_D A ([] ++ BWW ad b_1) := hD
      have hK : va_K D vwCl ([] ++ BWT b_1) s := hK
      refine vx_catch (own := RL) (name := "java/lang/UnsupportedOperationException") (E := "java/lang/UnsupportedOperationException") hown [(⟨0, 4, 5, 38⟩ : ExceptionTableEntry)] (⟨0, 4, 10, 13⟩ : ExceptionTableEntry) [] (htb.trans rfl) (List.forall_mem_cons.mpr ⟨(Or.inr ⟨by decide, "java/lang/IllegalArgumentException", (hts (.classLink RL 38 "java/lang/IllegalArgumentException") (List.mem_of_getElem? (i := 1) (by decide +kernel))), fxd_ hF "java/lang/UnsupportedOperationException" "java/lang/IllegalArgumentException"⟩), (fun z hz => absurd hz List.not_mem_nil)⟩) (by decide) (by decide) (fxl_ hF (13, "java/lang/UnsupportedOperationException")) (fxk_ hF "java/lang/UnsupportedOperationException" "java/lang/UnsupportedOperationException") hce hvm hcl ?_
      refine W.eq (g2 := F0 m 10 ls [.ref q9]) rfl ?_
      refine lv_astore_n (lv' := [(1, .ref q9), (0, .ref a0)]) hx hb dL_commands_10 rfl hl (by decide) rfl (fun ls hl => ?_)
      refine lv_sipush (v := (-1002)) hx hb dL_commands_11 (by decide +kernel) ?_
      refine W.widen (k := (FF9).2.2.1) (n := (FF9).2.2.2) (Nat.le_of_eq (by rw [hM]; first | done | rfl)) (Nat.le_of_eq (by rw [hM]; first | done | rfl)) ?_
      exact W.iret (v := (-1002)) hx hb hr (lw_ret (X := []) (Y := []) b_1 hP hD hK hS (by rw [hM]; first | done | rfl) ⟨(by rw [hM]; exact hM9_1), hb9_1, hBL_1, (by rw [hM]; exact XI.mono hXI_1 (show (Bd + 36600) ≤ Bd + 36600 from (by have z0 := hBd; omega)))⟩) hS.2.2 dL_commands_14
    · have hM : FF9 = (adc (0 + y1.2.2.2.2.2.2.2.2.2.2.2.2.2.2.2.2.2.2.2.2.2.2.2.2.2.2.2.2.2.2.2.2.2.2.2.2.2.2.2.2.2.2.2.2.2.2.2.2.2.2.2.2.1) (0 + y1.2.2.2.2.2.2.2.2.2.2.2.2.2.2.2.2.2.2.2.2.2.2.2.2.2.2.2.2.2.2.2.2.2.2.2.2.2.2.2.2.2.2.2.2.2.2.2.2.2.2.2.2.2) (if y1.1 = 0 then (y1.2.1, (T_X10_commands M y1), 0, 0) else (if y1.1 = 1 then ((-1002), (TX_X10_commands M y1), 0, 0) else ((-1001), (T_X10_commands M y1), 0, 0)))) := hM.trans (adc_adc _ _ _ _ _)
      rw [if_neg (show ¬ y1.1 = 0 from by rw [hst]; decide)] at hM
      rw [if_neg (show ¬ y1.1 = 1 from by rw [hst]; decide)] at hM
      have hXI_1 : XI (Bd + 36600) (T_X10_commands M y1) := by rw [← hy_1]; exact xt_T_X10_commands hXI (show Bd ≤ 900000 from (by have h9 := (show (Bd + 36600) ≤ 900000 from (by have z0 := hBd; omega)); omega)) (by rw [hy_1]; exact hen) (by rw [hy_1, hst]; decide)
      have hM9_1 : b_1.2.2.2 = (T_X10_commands M y1) := hM9_1
      have hP : va_P D vwCl ([] ++ BWW ad b_1) H := hP
      have hD : va_D A ([] ++ BWW ad b_1) := hD
      have hK : va_K D vwCl ([] ++ BWT b_1) s := hK
      refine vx_catch (own := RL) (name := "java/lang/IllegalArgumentException") (E := "java/lang/IllegalArgumentException") hown [] (⟨0, 4, 5, 38⟩ : ExceptionTableEntry) [(⟨0, 4, 10, 13⟩ : ExceptionTableEntry)] (htb.trans rfl) (fun z hz => by cases hz) (by decide) (by decide) (hts (.classLink RL 38 "java/lang/IllegalArgumentException") (List.mem_of_getElem? (i := 1) (by decide +kernel))) (fxk_ hF "java/lang/IllegalArgumentException" "java/lang/IllegalArgumentException") hce hvm hcl ?_
      refine W.eq (g2 := F0 m 5 ls [.ref q9]) rfl ?_
      refine lv_astore_n (lv' := [(1, .ref q9), (0, .ref a0)]) hx hb dL_commands_5 rfl hl (by decide) rfl (fun ls hl => ?_)
      refine lv_sipush (v := (-1001)) hx hb dL_commands_6 (by decide +kernel) ?_
      refine W.widen (k := (FF9).2.2.1) (n := (FF9).2.2.2) (Nat.le_of_eq (by rw [hM]; first | done | rfl)) (Nat.le_of_eq (by rw [hM]; first | done | rfl)) ?_
      exact W.iret (v := (-1001)) hx hb hr (lw_ret (X := []) (Y := []) b_1 hP hD hK hS (by rw [hM]; first | done | rfl) ⟨(by rw [hM]; exact hM9_1), hb9_1, hBL_1, (by rw [hM]; exact XI.mono hXI_1 (show (Bd + 36600) ≤ Bd + 36600 from (by have z0 := hBd; omega)))⟩) hS.2.2 dL_commands_9
def K_L_reason_3 (M : MS) (y3 : Nat × Int32) : Int32 × MS × Nat × Nat := (adc 1 6 (if y3.1 = 0 then (y3.2, M, 0, 0) else ((-1001), M, 0, 0)))
def F_L_reason (M : MS) (a1 : Int32) (a2 : Int32) : Int32 × MS × Nat × Nat := (K_L_reason_3 M (FF_X10_reason M a1 a2))
set_option maxHeartbeats 4000000 in
set_option maxRecDepth 100000 in
theorem bl_L_reason (l : Launch) (hl0 : l.stackTraces = false) (D : va_G) (ad : Nat → Nat) (sz : Nat) (b : BX) (hBL : BL_ b) (a0 : Nat) (hb9 : b.1 79 = a0) (M : MS) (hM9 : b.2.2.2 = M) (Bd : Nat) (hXI : XI Bd M) (hBd : Bd + 0 ≤ 900000) (a1 : Int32) (a2 : Int32) : Met l yL_reason wsL_reason ({ frames := 7, cells := (F_L_reason M a1 a2).2.2.1, slots := (F_L_reason M a1 a2).2.2.2, locals := 125 }) (PC_ D ad (BWW ad b) (BWT b) sz [.ref a0, .int a1, .int a2]) (QB_ D (fun _ : BX => some (.int (F_L_reason M a1 a2).1)) (fun b' => b'.2.2.2 = (F_L_reason M a1 a2).2.1 ∧ b'.1 79 = a0 ∧ BL_ b' ∧ XI (Bd + 0) (F_L_reason M a1 a2).2.1) (BWW ad) BWT (va_A (BWW ad b) sz)) (F_L_reason M a1 a2).2.2.1 (F_L_reason M a1 a2).2.2.2 (va_A (BWW ad b) sz) := by
  refine va_MetW (cc := cL_reason) (maxL := 4) (ret := (some .int)) (by decide) rfl ?_
  intro p e s m args below meth c s₁ B hml hv
  obtain ⟨rfl, hsz, hP, hK, hD0, hF⟩ := hv
  have hx := B.exec
  have hb := B.bytes
  have hr := B.returns
  have hts := atoms_spec (ws := wsL_reason) B.pre
  have hown : s.vm.findClass RL = some m.cls := findClass_of_methodNamed B.named
  have hlocks := B.notSynchronized
  have htb := vx_table (x := yL_reason) B (hts _ (List.mem_cons_self))
  subst hsz
  have hD := hD0.self (sz := s.heap.size)
  generalize hAe : va_A (BWW ad b) s.heap.size = A at hD hF ⊢
  have hA : ∀ q : Nat, s.heap.size ≤ q → A q := fun q h => by rw [← hAe]; exact Or.inr h
  obtain ⟨H, hHe⟩ : ∃ H : Heap, H = s.heap := ⟨_, rfl⟩
  have hS : va_S A s.heap H [] := by rw [hHe]; exact va_S.rf
  have hP : va_P D vwCl ([] ++ BWW ad b) H := by rw [hHe]; exact hP
  have hD : va_D A ([] ++ BWW ad b) := hD
  have hK : va_K D vwCl ([] ++ BWT b) s := hK
  rw [← hHe]
  have hl := lv_entry [.ref a0, .int a1, .int a2] (n := 4) (Nat.le_of_ble_eq_true rfl)
  rw [lg_entry_eq]
  generalize (lg_sl [.ref a0, .int a1, .int a2] ++ List.replicate (4 - (lg_sl [.ref a0, .int a1, .int a2]).length) Slot.unset).toArray = ls at hl ⊢
  have hl : lv_has ls 4 [(0, .ref a0), (1, .int a1), (2, .int a2)] := hl
  generalize hF9 : F_L_reason M a1 a2 = FF9
  have hM : FF9 = (adc 0 0 (K_L_reason_3 M (FF_X10_reason M a1 a2))) := hF9.symm.trans (adc_0 _).symm
  refine lv_aload_n hx hb dL_reason_0 rfl (lv_at hl 0 rfl) ?_
  refine lv_iload_n hx hb dL_reason_1 rfl (lv_at hl 1 rfl) ?_
  refine lv_iload_n hx hb dL_reason_2 rfl (lv_at hl 2 rfl) ?_
  have hcon := (b_X10_reason l hl0 D ad H.size b hBL a1 a2)
  rw [hM9, hb9] at hcon
  generalize hy_1 : (FF_X10_reason M a1 a2) = y3 at hcon hM
  have hM : FF9 = (adc 0 0 (adc 1 6 (if y3.1 = 0 then (y3.2, M, 0, 0) else ((-1001), M, 0, 0)))) := hM
  refine kzwb_ [] [] (vx_runV (As := [.int a1, .int a2]) (rest := []) ⟨hx, hb, hml, hown, hts⟩ hcon (cwV 2 hts gL_reason_X10_reason rfl rfl rfl (by decide +kernel) ⟨Nat.le_of_ble_eq_true rfl, Nat.le_of_ble_eq_true rfl⟩) ⟨PC_.blind, (by rw [← hb9]; exact bw_recv (X := []) (Y := []) hK hP), lw_pre (X := []) (Y := []) hF hK hP hD hS hA⟩ rfl rfl hl.1 rfl (lv_room (Nat.le_of_ble_eq_true rfl)) dL_reason_3 ⟨(adc_r1 hM), (adc_s1 hM)⟩) hK hP hD hS hA (fun b_1 H locs hpo hP hD hK hS => ?_) (fun E9 ce q9 b_1 H locs hE hP hD hK hS hce hvm hcl => ?_)
  · have hM : FF9 = (adc (0 + 1) (0 + 6) (if y3.1 = 0 then (y3.2, M, 0, 0) else ((-1001), M, 0, 0))) := hM.trans (adc_adc _ _ _ _ _)
    obtain ⟨hst, hM9_1, hb9_1, hBL_1⟩ := hpo
    rw [if_pos hst] at hM
    have hXI_1 := hXI
    have hM9_1 : b_1.2.2.2 = M := hM9_1
    have hBL_1 : BL_ b_1 := hBL_1 hBL
    have hP : va_P D vwCl ([] ++ BWW ad b_1) H := hP
    have hD : va_D A ([] ++ BWW ad b_1) := hD
    have hK : va_K D vwCl ([] ++ BWT b_1) s := hK
    refine W.eq (g2 := F0 m 6 ls [.int y3.2]) rfl ?_
    refine W.widen (k := (FF9).2.2.1) (n := (FF9).2.2.2) (Nat.le_of_eq (by rw [hM]; first | done | rfl)) (Nat.le_of_eq (by rw [hM]; first | done | rfl)) ?_
    exact W.iret (v := y3.2) hx hb hr (lw_ret (X := []) (Y := []) b_1 hP hD hK hS (by rw [hM]; first | done | rfl) ⟨(by rw [hM]; exact hM9_1), hb9_1, hBL_1, (by rw [hM]; exact XI.mono hXI_1 (show Bd ≤ Bd + 0 from (by have z0 := hBd; omega)))⟩) hS.2.2 dL_reason_6
  · rcases hE with ⟨rfl, hst, hM9_1, hb9_1, hBL_1⟩
    · have hM : FF9 = (adc (0 + 1) (0 + 6) (if y3.1 = 0 then (y3.2, M, 0, 0) else ((-1001), M, 0, 0))) := hM.trans (adc_adc _ _ _ _ _)
      rw [if_neg (show ¬ y3.1 = 0 from by rw [hst]; decide)] at hM
      have hXI_1 := hXI
      have hM9_1 : b_1.2.2.2 = M := hM9_1
      have hBL_1 : BL_ b_1 := hBL_1 hBL
      have hP : va_P D vwCl ([] ++ BWW ad b_1) H := hP
      have hD : va_D A ([] ++ BWW ad b_1) := hD
      have hK : va_K D vwCl ([] ++ BWT b_1) s := hK
      refine vx_catch (own := RL) (name := "java/util/NoSuchElementException") (E := "java/util/NoSuchElementException") hown [] (⟨0, 6, 7, 43⟩ : ExceptionTableEntry) [] (htb.trans rfl) (fun z hz => by cases hz) (by decide) (by decide) (hts (.classLink RL 43 "java/util/NoSuchElementException") (List.mem_of_getElem? (i := 1) (by decide +kernel))) (fxk_ hF "java/util/NoSuchElementException" "java/util/NoSuchElementException") hce hvm hcl ?_
      refine W.eq (g2 := F0 m 7 ls [.ref q9]) rfl ?_
      refine lv_astore_n (lv' := [(3, .ref q9), (0, .ref a0), (1, .int a1), (2, .int a2)]) hx hb dL_reason_7 rfl hl (by decide) rfl (fun ls hl => ?_)
      refine lv_sipush (v := (-1001)) hx hb dL_reason_8 (by decide +kernel) ?_
      refine W.widen (k := (FF9).2.2.1) (n := (FF9).2.2.2) (Nat.le_of_eq (by rw [hM]; first | done | rfl)) (Nat.le_of_eq (by rw [hM]; first | done | rfl)) ?_
      exact W.iret (v := (-1001)) hx hb hr (lw_ret (X := []) (Y := []) b_1 hP hD hK hS (by rw [hM]; first | done | rfl) ⟨(by rw [hM]; exact hM9_1), hb9_1, hBL_1, (by rw [hM]; exact XI.mono hXI_1 (show Bd ≤ Bd + 0 from (by have z0 := hBd; omega)))⟩) hS.2.2 dL_reason_11
def K_L_line_2 (M : MS) (y2 : Nat × Int32 × Nat × (Nat → Int32) × Int32 × Int32 × Nat × Nat) : Int32 × MS × Nat × Nat := (adc y2.2.2.2.2.2.2.1 y2.2.2.2.2.2.2.2 (if y2.1 = 0 then (y2.2.1, (T_X10_line M y2), 0, 0) else ((-1001), (T_X10_line M y2), 0, 0)))
def F_L_line (M : MS) (a1 : Int32) : Int32 × MS × Nat × Nat := (K_L_line_2 M (FF_X10_line M a1))
set_option maxHeartbeats 4000000 in
set_option maxRecDepth 100000 in
theorem bl_L_line (l : Launch) (hl0 : l.stackTraces = false) (D : va_G) (ad : Nat → Nat) (sz : Nat) (b : BX) (hBL : BL_ b) (a0 : Nat) (hb9 : b.1 79 = a0) (M : MS) (hM9 : b.2.2.2 = M) (Bd : Nat) (hXI : XI Bd M) (hBd : Bd + 0 ≤ 900000) (a1 : Int32) : Met l yL_line wsL_line ({ frames := 8, cells := (F_L_line M a1).2.2.1, slots := (F_L_line M a1).2.2.2, locals := 214 }) (PC_ D ad (BWW ad b) (BWT b) sz [.ref a0, .int a1]) (QB_ D (fun _ : BX => some (.int (F_L_line M a1).1)) (fun b' => b'.2.2.2 = (F_L_line M a1).2.1 ∧ b'.1 79 = a0 ∧ BL_ b' ∧ XI (Bd + 0) (F_L_line M a1).2.1) (BWW ad) BWT (va_A (BWW ad b) sz)) (F_L_line M a1).2.2.1 (F_L_line M a1).2.2.2 (va_A (BWW ad b) sz) := by
  refine va_MetW (cc := cL_line) (maxL := 3) (ret := (some .int)) (by decide) rfl ?_
  intro p e s m args below meth c s₁ B hml hv
  obtain ⟨rfl, hsz, hP, hK, hD0, hF⟩ := hv
  have hx := B.exec
  have hb := B.bytes
  have hr := B.returns
  have hts := atoms_spec (ws := wsL_line) B.pre
  have hown : s.vm.findClass RL = some m.cls := findClass_of_methodNamed B.named
  have hlocks := B.notSynchronized
  have htb := vx_table (x := yL_line) B (hts _ (List.mem_cons_self))
  subst hsz
  have hD := hD0.self (sz := s.heap.size)
  generalize hAe : va_A (BWW ad b) s.heap.size = A at hD hF ⊢
  have hA : ∀ q : Nat, s.heap.size ≤ q → A q := fun q h => by rw [← hAe]; exact Or.inr h
  obtain ⟨H, hHe⟩ : ∃ H : Heap, H = s.heap := ⟨_, rfl⟩
  have hS : va_S A s.heap H [] := by rw [hHe]; exact va_S.rf
  have hP : va_P D vwCl ([] ++ BWW ad b) H := by rw [hHe]; exact hP
  have hD : va_D A ([] ++ BWW ad b) := hD
  have hK : va_K D vwCl ([] ++ BWT b) s := hK
  rw [← hHe]
  have hl := lv_entry [.ref a0, .int a1] (n := 3) (Nat.le_of_ble_eq_true rfl)
  rw [lg_entry_eq]
  generalize (lg_sl [.ref a0, .int a1] ++ List.replicate (3 - (lg_sl [.ref a0, .int a1]).length) Slot.unset).toArray = ls at hl ⊢
  have hl : lv_has ls 3 [(0, .ref a0), (1, .int a1)] := hl
  generalize hF9 : F_L_line M a1 = FF9
  have hM : FF9 = (adc 0 0 (K_L_line_2 M (FF_X10_line M a1))) := hF9.symm.trans (adc_0 _).symm
  refine lv_aload_n hx hb dL_line_0 rfl (lv_at hl 0 rfl) ?_
  refine lv_iload_n hx hb dL_line_1 rfl (lv_at hl 1 rfl) ?_
  have hcon := (b_X10_line l hl0 D ad H.size b hBL a1 (by rw [hM9]; exact xh_X10_line hXI (show Bd ≤ 900000 from (by have h9 := (show Bd ≤ 900000 from (by have z0 := hBd; omega)); omega)) a1))
  rw [hM9, hb9] at hcon
  generalize hy_1 : (FF_X10_line M a1) = y2 at hcon hM
  have hM : FF9 = (adc 0 0 (adc y2.2.2.2.2.2.2.1 y2.2.2.2.2.2.2.2 (if y2.1 = 0 then (y2.2.1, (T_X10_line M y2), 0, 0) else ((-1001), (T_X10_line M y2), 0, 0)))) := hM
  refine kzwb_ [] [] (vx_runV (As := [.int a1]) (rest := []) ⟨hx, hb, hml, hown, hts⟩ hcon (cwV 1 hts gL_line_X10_line rfl rfl rfl (by decide +kernel) ⟨Nat.le_of_ble_eq_true rfl, Nat.le_of_ble_eq_true rfl⟩) ⟨PC_.blind, (by rw [← hb9]; exact bw_recv (X := []) (Y := []) hK hP), lw_pre (X := []) (Y := []) hF hK hP hD hS hA⟩ rfl rfl hl.1 rfl (lv_room (Nat.le_of_ble_eq_true rfl)) dL_line_2 ⟨(adc_r1 hM), (adc_s1 hM)⟩) hK hP hD hS hA (fun b_1 H locs hpo hP hD hK hS => ?_) (fun E9 ce q9 b_1 H locs hE hP hD hK hS hce hvm hcl => ?_)
  · have hM : FF9 = (adc (0 + y2.2.2.2.2.2.2.1) (0 + y2.2.2.2.2.2.2.2) (if y2.1 = 0 then (y2.2.1, (T_X10_line M y2), 0, 0) else ((-1001), (T_X10_line M y2), 0, 0))) := hM.trans (adc_adc _ _ _ _ _)
    obtain ⟨hst, hM9_1, hb9_1, hen, hBL_1⟩ := hpo
    rw [if_pos hst] at hM
    have hXI_1 : XI Bd (T_X10_line M y2) := by rw [← hy_1]; exact xt_T_X10_line hXI (show Bd ≤ 900000 from (by have h9 := (show Bd ≤ 900000 from (by have z0 := hBd; omega)); omega)) a1 (by rw [hy_1]; exact hen)
    have hM9_1 : b_1.2.2.2 = (T_X10_line M y2) := hM9_1
    have hP : va_P D vwCl ([] ++ BWW ad b_1) H := hP
    have hD : va_D A ([] ++ BWW ad b_1) := hD
    have hK : va_K D vwCl ([] ++ BWT b_1) s := hK
    refine W.eq (g2 := F0 m 5 ls [.int y2.2.1]) rfl ?_
    refine W.widen (k := (FF9).2.2.1) (n := (FF9).2.2.2) (Nat.le_of_eq (by rw [hM]; first | done | rfl)) (Nat.le_of_eq (by rw [hM]; first | done | rfl)) ?_
    exact W.iret (v := y2.2.1) hx hb hr (lw_ret (X := []) (Y := []) b_1 hP hD hK hS (by rw [hM]; first | done | rfl) ⟨(by rw [hM]; exact hM9_1), hb9_1, hBL_1, (by rw [hM]; exact XI.mono hXI_1 (show Bd ≤ Bd + 0 from (by have z0 := hBd; omega)))⟩) hS.2.2 dL_line_5
  · rcases hE with ⟨rfl, hst, hM9_1, hb9_1, hen, hBL_1⟩
    · have hM : FF9 = (adc (0 + y2.2.2.2.2.2.2.1) (0 + y2.2.2.2.2.2.2.2) (if y2.1 = 0 then (y2.2.1, (T_X10_line M y2), 0, 0) else ((-1001), (T_X10_line M y2), 0, 0))) := hM.trans (adc_adc _ _ _ _ _)
      rw [if_neg (show ¬ y2.1 = 0 from by rw [hst]; decide)] at hM
      have hXI_1 : XI Bd (T_X10_line M y2) := by rw [← hy_1]; exact xt_T_X10_line hXI (show Bd ≤ 900000 from (by have h9 := (show Bd ≤ 900000 from (by have z0 := hBd; omega)); omega)) a1 (by rw [hy_1]; exact hen)
      have hM9_1 : b_1.2.2.2 = (T_X10_line M y2) := hM9_1
      have hP : va_P D vwCl ([] ++ BWW ad b_1) H := hP
      have hD : va_D A ([] ++ BWW ad b_1) := hD
      have hK : va_K D vwCl ([] ++ BWT b_1) s := hK
      refine vx_catch (own := RL) (name := "java/lang/IndexOutOfBoundsException") (E := "java/lang/IndexOutOfBoundsException") hown [] (⟨0, 5, 6, 36⟩ : ExceptionTableEntry) [] (htb.trans rfl) (fun z hz => by cases hz) (by decide) (by decide) (hts (.classLink RL 36 "java/lang/IndexOutOfBoundsException") (List.mem_of_getElem? (i := 1) (by decide +kernel))) (fxk_ hF "java/lang/IndexOutOfBoundsException" "java/lang/IndexOutOfBoundsException") hce hvm hcl ?_
      refine W.eq (g2 := F0 m 6 ls [.ref q9]) rfl ?_
      refine lv_astore_n (lv' := [(2, .ref q9), (0, .ref a0), (1, .int a1)]) hx hb dL_line_6 rfl hl (by decide) rfl (fun ls hl => ?_)
      refine lv_sipush (v := (-1001)) hx hb dL_line_7 (by decide +kernel) ?_
      refine W.widen (k := (FF9).2.2.1) (n := (FF9).2.2.2) (Nat.le_of_eq (by rw [hM]; first | done | rfl)) (Nat.le_of_eq (by rw [hM]; first | done | rfl)) ?_
      exact W.iret (v := (-1001)) hx hb hr (lw_ret (X := []) (Y := []) b_1 hP hD hK hS (by rw [hM]; first | done | rfl) ⟨(by rw [hM]; exact hM9_1), hb9_1, hBL_1, (by rw [hM]; exact XI.mono hXI_1 (show Bd ≤ Bd + 0 from (by have z0 := hBd; omega)))⟩) hS.2.2 dL_line_10
def K_L_character_2 (M : MS) (y2 : Nat × Int32) : Int32 × MS × Nat × Nat := (adc 1 6 (if y2.1 = 0 then (y2.2, M, 0, 0) else ((-1001), M, 0, 0)))
def F_L_character (M : MS) (a1 : Int32) : Int32 × MS × Nat × Nat := (K_L_character_2 M (FF_X10_character M a1))
set_option maxHeartbeats 4000000 in
set_option maxRecDepth 100000 in
theorem bl_L_character (l : Launch) (hl0 : l.stackTraces = false) (D : va_G) (ad : Nat → Nat) (sz : Nat) (b : BX) (hBL : BL_ b) (a0 : Nat) (hb9 : b.1 79 = a0) (M : MS) (hM9 : b.2.2.2 = M) (Bd : Nat) (hXI : XI Bd M) (hBd : Bd + 0 ≤ 900000) (a1 : Int32) : Met l yL_character wsL_character ({ frames := 7, cells := (F_L_character M a1).2.2.1, slots := (F_L_character M a1).2.2.2, locals := 123 }) (PC_ D ad (BWW ad b) (BWT b) sz [.ref a0, .int a1]) (QB_ D (fun _ : BX => some (.int (F_L_character M a1).1)) (fun b' => b'.2.2.2 = (F_L_character M a1).2.1 ∧ b'.1 79 = a0 ∧ BL_ b' ∧ XI (Bd + 0) (F_L_character M a1).2.1) (BWW ad) BWT (va_A (BWW ad b) sz)) (F_L_character M a1).2.2.1 (F_L_character M a1).2.2.2 (va_A (BWW ad b) sz) := by
  refine va_MetW (cc := cL_character) (maxL := 3) (ret := (some .int)) (by decide) rfl ?_
  intro p e s m args below meth c s₁ B hml hv
  obtain ⟨rfl, hsz, hP, hK, hD0, hF⟩ := hv
  have hx := B.exec
  have hb := B.bytes
  have hr := B.returns
  have hts := atoms_spec (ws := wsL_character) B.pre
  have hown : s.vm.findClass RL = some m.cls := findClass_of_methodNamed B.named
  have hlocks := B.notSynchronized
  have htb := vx_table (x := yL_character) B (hts _ (List.mem_cons_self))
  subst hsz
  have hD := hD0.self (sz := s.heap.size)
  generalize hAe : va_A (BWW ad b) s.heap.size = A at hD hF ⊢
  have hA : ∀ q : Nat, s.heap.size ≤ q → A q := fun q h => by rw [← hAe]; exact Or.inr h
  obtain ⟨H, hHe⟩ : ∃ H : Heap, H = s.heap := ⟨_, rfl⟩
  have hS : va_S A s.heap H [] := by rw [hHe]; exact va_S.rf
  have hP : va_P D vwCl ([] ++ BWW ad b) H := by rw [hHe]; exact hP
  have hD : va_D A ([] ++ BWW ad b) := hD
  have hK : va_K D vwCl ([] ++ BWT b) s := hK
  rw [← hHe]
  have hl := lv_entry [.ref a0, .int a1] (n := 3) (Nat.le_of_ble_eq_true rfl)
  rw [lg_entry_eq]
  generalize (lg_sl [.ref a0, .int a1] ++ List.replicate (3 - (lg_sl [.ref a0, .int a1]).length) Slot.unset).toArray = ls at hl ⊢
  have hl : lv_has ls 3 [(0, .ref a0), (1, .int a1)] := hl
  generalize hF9 : F_L_character M a1 = FF9
  have hM : FF9 = (adc 0 0 (K_L_character_2 M (FF_X10_character M a1))) := hF9.symm.trans (adc_0 _).symm
  refine lv_aload_n hx hb dL_character_0 rfl (lv_at hl 0 rfl) ?_
  refine lv_iload_n hx hb dL_character_1 rfl (lv_at hl 1 rfl) ?_
  have hcon := (b_X10_character l hl0 D ad H.size b hBL a1 (by rw [hM9]; exact xh_X10_character hXI (show Bd ≤ 900000 from (by have h9 := (show Bd ≤ 900000 from (by have z0 := hBd; omega)); omega)) a1))
  rw [hM9, hb9] at hcon
  generalize hy_1 : (FF_X10_character M a1) = y2 at hcon hM
  have hM : FF9 = (adc 0 0 (adc 1 6 (if y2.1 = 0 then (y2.2, M, 0, 0) else ((-1001), M, 0, 0)))) := hM
  refine kzwb_ [] [] (vx_runV (As := [.int a1]) (rest := []) ⟨hx, hb, hml, hown, hts⟩ hcon (cwV 1 hts gL_character_X10_character rfl rfl rfl (by decide +kernel) ⟨Nat.le_of_ble_eq_true rfl, Nat.le_of_ble_eq_true rfl⟩) ⟨PC_.blind, (by rw [← hb9]; exact bw_recv (X := []) (Y := []) hK hP), lw_pre (X := []) (Y := []) hF hK hP hD hS hA⟩ rfl rfl hl.1 rfl (lv_room (Nat.le_of_ble_eq_true rfl)) dL_character_2 ⟨(adc_r1 hM), (adc_s1 hM)⟩) hK hP hD hS hA (fun b_1 H locs hpo hP hD hK hS => ?_) (fun E9 ce q9 b_1 H locs hE hP hD hK hS hce hvm hcl => ?_)
  · have hM : FF9 = (adc (0 + 1) (0 + 6) (if y2.1 = 0 then (y2.2, M, 0, 0) else ((-1001), M, 0, 0))) := hM.trans (adc_adc _ _ _ _ _)
    obtain ⟨hst, hM9_1, hb9_1, hBL_1⟩ := hpo
    rw [if_pos hst] at hM
    have hXI_1 := hXI
    have hM9_1 : b_1.2.2.2 = M := hM9_1
    have hBL_1 : BL_ b_1 := hBL_1 hBL
    have hP : va_P D vwCl ([] ++ BWW ad b_1) H := hP
    have hD : va_D A ([] ++ BWW ad b_1) := hD
    have hK : va_K D vwCl ([] ++ BWT b_1) s := hK
    refine W.eq (g2 := F0 m 5 ls [.int y2.2]) rfl ?_
    refine W.widen (k := (FF9).2.2.1) (n := (FF9).2.2.2) (Nat.le_of_eq (by rw [hM]; first | done | rfl)) (Nat.le_of_eq (by rw [hM]; first | done | rfl)) ?_
    exact W.iret (v := y2.2) hx hb hr (lw_ret (X := []) (Y := []) b_1 hP hD hK hS (by rw [hM]; first | done | rfl) ⟨(by rw [hM]; exact hM9_1), hb9_1, hBL_1, (by rw [hM]; exact XI.mono hXI_1 (show Bd ≤ Bd + 0 from (by have z0 := hBd; omega)))⟩) hS.2.2 dL_character_5
  · rcases hE with ⟨rfl, hst, hM9_1, hb9_1, hBL_1⟩
    · have hM : FF9 = (adc (0 + 1) (0 + 6) (if y2.1 = 0 then (y2.2, M, 0, 0) else ((-1001), M, 0, 0))) := hM.trans (adc_adc _ _ _ _ _)
      rw [if_neg (show ¬ y2.1 = 0 from by rw [hst]; decide)] at hM
      have hXI_1 := hXI
      have hM9_1 : b_1.2.2.2 = M := hM9_1
      have hBL_1 : BL_ b_1 := hBL_1 hBL
      have hP : va_P D vwCl ([] ++ BWW ad b_1) H := hP
      have hD : va_D A ([] ++ BWW ad b_1) := hD
      have hK : va_K D vwCl ([] ++ BWT b_1) s := hK
      refine vx_catch (own := RL) (name := "java/lang/IndexOutOfBoundsException") (E := "java/lang/IndexOutOfBoundsException") hown [] (⟨0, 5, 6, 36⟩ : ExceptionTableEntry) [] (htb.trans rfl) (fun z hz => by cases hz) (by decide) (by decide) (hts (.classLink RL 36 "java/lang/IndexOutOfBoundsException") (List.mem_of_getElem? (i := 1) (by decide +kernel))) (fxk_ hF "java/lang/IndexOutOfBoundsException" "java/lang/IndexOutOfBoundsException") hce hvm hcl ?_
      refine W.eq (g2 := F0 m 6 ls [.ref q9]) rfl ?_
      refine lv_astore_n (lv' := [(2, .ref q9), (0, .ref a0), (1, .int a1)]) hx hb dL_character_6 rfl hl (by decide) rfl (fun ls hl => ?_)
      refine lv_sipush (v := (-1001)) hx hb dL_character_7 (by decide +kernel) ?_
      refine W.widen (k := (FF9).2.2.1) (n := (FF9).2.2.2) (Nat.le_of_eq (by rw [hM]; first | done | rfl)) (Nat.le_of_eq (by rw [hM]; first | done | rfl)) ?_
      exact W.iret (v := (-1001)) hx hb hr (lw_ret (X := []) (Y := []) b_1 hP hD hK hS (by rw [hM]; first | done | rfl) ⟨(by rw [hM]; exact hM9_1), hb9_1, hBL_1, (by rw [hM]; exact XI.mono hXI_1 (show Bd ≤ Bd + 0 from (by have z0 := hBd; omega)))⟩) hS.2.2 dL_character_10
def K_L_meanCost_1 (M : MS) (y1 : Nat × UInt64) : UInt64 × MS × Nat × Nat := (adc 1 6 (if y1.1 = 0 then (y1.2, M, 0, 0) else ((13875388141788987392 : UInt64), M, 0, 0)))
def F_L_meanCost (M : MS) : UInt64 × MS × Nat × Nat := (K_L_meanCost_1 M (FF_X10_meanCost M))
set_option maxHeartbeats 4000000 in
set_option maxRecDepth 100000 in
theorem bl_L_meanCost (l : Launch) (hl0 : l.stackTraces = false) (D : va_G) (ad : Nat → Nat) (sz : Nat) (b : BX) (hBL : BL_ b) (a0 : Nat) (hb9 : b.1 79 = a0) (M : MS) (hM9 : b.2.2.2 = M) (Bd : Nat) (hXI : XI Bd M) (hBd : Bd + 0 ≤ 900000) : Met l yL_meanCost wsL_meanCost ({ frames := 7, cells := (F_L_meanCost M).2.2.1, slots := (F_L_meanCost M).2.2.2, locals := 123 }) (PC_ D ad (BWW ad b) (BWT b) sz [.ref a0]) (QB_ D (fun _ : BX => some (.double (F_L_meanCost M).1)) (fun b' => b'.2.2.2 = (F_L_meanCost M).2.1 ∧ b'.1 79 = a0 ∧ BL_ b' ∧ XI (Bd + 0) (F_L_meanCost M).2.1) (BWW ad) BWT (va_A (BWW ad b) sz)) (F_L_meanCost M).2.2.1 (F_L_meanCost M).2.2.2 (va_A (BWW ad b) sz) := by
  refine va_MetW (cc := cL_meanCost) (maxL := 2) (ret := (some .double)) (by decide) rfl ?_
  intro p e s m args below meth c s₁ B hml hv
  obtain ⟨rfl, hsz, hP, hK, hD0, hF⟩ := hv
  have hx := B.exec
  have hb := B.bytes
  have hr := B.returns
  have hts := atoms_spec (ws := wsL_meanCost) B.pre
  have hown : s.vm.findClass RL = some m.cls := findClass_of_methodNamed B.named
  have hlocks := B.notSynchronized
  have htb := vx_table (x := yL_meanCost) B (hts _ (List.mem_cons_self))
  subst hsz
  have hD := hD0.self (sz := s.heap.size)
  generalize hAe : va_A (BWW ad b) s.heap.size = A at hD hF ⊢
  have hA : ∀ q : Nat, s.heap.size ≤ q → A q := fun q h => by rw [← hAe]; exact Or.inr h
  obtain ⟨H, hHe⟩ : ∃ H : Heap, H = s.heap := ⟨_, rfl⟩
  have hS : va_S A s.heap H [] := by rw [hHe]; exact va_S.rf
  have hP : va_P D vwCl ([] ++ BWW ad b) H := by rw [hHe]; exact hP
  have hD : va_D A ([] ++ BWW ad b) := hD
  have hK : va_K D vwCl ([] ++ BWT b) s := hK
  rw [← hHe]
  have hl := lv_entry [.ref a0] (n := 2) (Nat.le_of_ble_eq_true rfl)
  rw [lg_entry_eq]
  generalize (lg_sl [.ref a0] ++ List.replicate (2 - (lg_sl [.ref a0]).length) Slot.unset).toArray = ls at hl ⊢
  have hl : lv_has ls 2 [(0, .ref a0)] := hl
  generalize hF9 : F_L_meanCost M = FF9
  have hM : FF9 = (adc 0 0 (K_L_meanCost_1 M (FF_X10_meanCost M))) := hF9.symm.trans (adc_0 _).symm
  refine lv_aload_n hx hb dL_meanCost_0 rfl (lv_at hl 0 rfl) ?_
  have hcon := (b_X10_meanCost l hl0 D ad H.size b hBL (by rw [hM9]; exact xh_X10_meanCost hXI (show Bd ≤ 900000 from (by have h9 := (show Bd ≤ 900000 from (by have z0 := hBd; omega)); omega))))
  rw [hM9, hb9] at hcon
  generalize hy_1 : (FF_X10_meanCost M) = y1 at hcon hM
  have hM : FF9 = (adc 0 0 (adc 1 6 (if y1.1 = 0 then (y1.2, M, 0, 0) else ((13875388141788987392 : UInt64), M, 0, 0)))) := hM
  refine kzwb_ [] [] (vx_runV (As := []) (rest := []) ⟨hx, hb, hml, hown, hts⟩ hcon (cwV 0 hts gL_meanCost_X10_meanCost rfl rfl rfl (by decide +kernel) ⟨Nat.le_of_ble_eq_true rfl, Nat.le_of_ble_eq_true rfl⟩) ⟨PC_.blind, (by rw [← hb9]; exact bw_recv (X := []) (Y := []) hK hP), lw_pre (X := []) (Y := []) hF hK hP hD hS hA⟩ rfl rfl hl.1 rfl (lv_room (Nat.le_of_ble_eq_true rfl)) dL_meanCost_1 ⟨(adc_r1 hM), (adc_s1 hM)⟩) hK hP hD hS hA (fun b_1 H locs hpo hP hD hK hS => ?_) (fun E9 ce q9 b_1 H locs hE hP hD hK hS hce hvm hcl => ?_)
  · have hM : FF9 = (adc (0 + 1) (0 + 6) (if y1.1 = 0 then (y1.2, M, 0, 0) else ((13875388141788987392 : UInt64), M, 0, 0))) := hM.trans (adc_adc _ _ _ _ _)
    obtain ⟨hst, hM9_1, hb9_1, hBL_1⟩ := hpo
    rw [if_pos hst] at hM
    have hXI_1 := hXI
    have hM9_1 : b_1.2.2.2 = M := hM9_1
    have hBL_1 : BL_ b_1 := hBL_1 hBL
    have hP : va_P D vwCl ([] ++ BWW ad b_1) H := hP
    have hD : va_D A ([] ++ BWW ad b_1) := hD
    have hK : va_K D vwCl ([] ++ BWT b_1) s := hK
    refine W.eq (g2 := F0 m 4 ls [.double y1.2]) rfl ?_
    refine W.widen (k := (FF9).2.2.1) (n := (FF9).2.2.2) (Nat.le_of_eq (by rw [hM]; first | done | rfl)) (Nat.le_of_eq (by rw [hM]; first | done | rfl)) ?_
    exact W.dret (v := y1.2) hx hb hr (lw_ret (X := []) (Y := []) b_1 hP hD hK hS (by rw [hM]; first | done | rfl) ⟨(by rw [hM]; exact hM9_1), hb9_1, hBL_1, (by rw [hM]; exact XI.mono hXI_1 (show Bd ≤ Bd + 0 from (by have z0 := hBd; omega)))⟩) hS.2.2 dL_meanCost_4
  · rcases hE with ⟨rfl, hst, hM9_1, hb9_1, hBL_1⟩
    · have hM : FF9 = (adc (0 + 1) (0 + 6) (if y1.1 = 0 then (y1.2, M, 0, 0) else ((13875388141788987392 : UInt64), M, 0, 0))) := hM.trans (adc_adc _ _ _ _ _)
      rw [if_neg (show ¬ y1.1 = 0 from by rw [hst]; decide)] at hM
      have hXI_1 := hXI
      have hM9_1 : b_1.2.2.2 = M := hM9_1
      have hBL_1 : BL_ b_1 := hBL_1 hBL
      have hP : va_P D vwCl ([] ++ BWW ad b_1) H := hP
      have hD : va_D A ([] ++ BWW ad b_1) := hD
      have hK : va_K D vwCl ([] ++ BWT b_1) s := hK
      refine vx_catch (own := RL) (name := "java/lang/ArithmeticException") (E := "java/lang/ArithmeticException") hown [] (⟨0, 4, 5, 115⟩ : ExceptionTableEntry) [] (htb.trans rfl) (fun z hz => by cases hz) (by decide) (by decide) (hts (.classLink RL 115 "java/lang/ArithmeticException") (List.mem_of_getElem? (i := 1) (by decide +kernel))) (fxk_ hF "java/lang/ArithmeticException" "java/lang/ArithmeticException") hce hvm hcl ?_
      refine W.eq (g2 := F0 m 5 ls [.ref q9]) rfl ?_
      refine lv_astore_n (lv' := [(1, .ref q9), (0, .ref a0)]) hx hb dL_meanCost_5 rfl hl (by decide) rfl (fun ls hl => ?_)
      refine lv_ldc2d (own := RL) hx hb hown (hts (.constantDouble RL 117 (13875388141788987392)) (List.mem_of_getElem? (i := 2) (by decide +kernel))) dL_meanCost_6 ?_
      refine W.widen (k := (FF9).2.2.1) (n := (FF9).2.2.2) (Nat.le_of_eq (by rw [hM]; first | done | rfl)) (Nat.le_of_eq (by rw [hM]; first | done | rfl)) ?_
      exact W.dret (v := (13875388141788987392 : UInt64)) hx hb hr (lw_ret (X := []) (Y := []) b_1 hP hD hK hS (by rw [hM]; first | done | rfl) ⟨(by rw [hM]; exact hM9_1), hb9_1, hBL_1, (by rw [hM]; exact XI.mono hXI_1 (show Bd ≤ Bd + 0 from (by have z0 := hBd; omega)))⟩) hS.2.2 dL_meanCost_9
def K_L_lostShare_1 (M : MS) (y1 : Nat × UInt32) : UInt32 × MS × Nat × Nat := (adc 1 6 (if y1.1 = 0 then (y1.2, M, 0, 0) else ((3296346112 : UInt32), M, 0, 0)))
def F_L_lostShare (M : MS) : UInt32 × MS × Nat × Nat := (K_L_lostShare_1 M (FF_X10_lostShare M))
set_option maxHeartbeats 4000000 in
set_option maxRecDepth 100000 in
theorem bl_L_lostShare (l : Launch) (hl0 : l.stackTraces = false) (D : va_G) (ad : Nat → Nat) (sz : Nat) (b : BX) (hBL : BL_ b) (a0 : Nat) (hb9 : b.1 79 = a0) (M : MS) (hM9 : b.2.2.2 = M) (Bd : Nat) (hXI : XI Bd M) (hBd : Bd + 0 ≤ 900000) : Met l yL_lostShare wsL_lostShare ({ frames := 7, cells := (F_L_lostShare M).2.2.1, slots := (F_L_lostShare M).2.2.2, locals := 122 }) (PC_ D ad (BWW ad b) (BWT b) sz [.ref a0]) (QB_ D (fun _ : BX => some (.float (F_L_lostShare M).1)) (fun b' => b'.2.2.2 = (F_L_lostShare M).2.1 ∧ b'.1 79 = a0 ∧ BL_ b' ∧ XI (Bd + 0) (F_L_lostShare M).2.1) (BWW ad) BWT (va_A (BWW ad b) sz)) (F_L_lostShare M).2.2.1 (F_L_lostShare M).2.2.2 (va_A (BWW ad b) sz) := by
  refine va_MetW (cc := cL_lostShare) (maxL := 2) (ret := (some .float)) (by decide) rfl ?_
  intro p e s m args below meth c s₁ B hml hv
  obtain ⟨rfl, hsz, hP, hK, hD0, hF⟩ := hv
  have hx := B.exec
  have hb := B.bytes
  have hr := B.returns
  have hts := atoms_spec (ws := wsL_lostShare) B.pre
  have hown : s.vm.findClass RL = some m.cls := findClass_of_methodNamed B.named
  have hlocks := B.notSynchronized
  have htb := vx_table (x := yL_lostShare) B (hts _ (List.mem_cons_self))
  subst hsz
  have hD := hD0.self (sz := s.heap.size)
  generalize hAe : va_A (BWW ad b) s.heap.size = A at hD hF ⊢
  have hA : ∀ q : Nat, s.heap.size ≤ q → A q := fun q h => by rw [← hAe]; exact Or.inr h
  obtain ⟨H, hHe⟩ : ∃ H : Heap, H = s.heap := ⟨_, rfl⟩
  have hS : va_S A s.heap H [] := by rw [hHe]; exact va_S.rf
  have hP : va_P D vwCl ([] ++ BWW ad b) H := by rw [hHe]; exact hP
  have hD : va_D A ([] ++ BWW ad b) := hD
  have hK : va_K D vwCl ([] ++ BWT b) s := hK
  rw [← hHe]
  have hl := lv_entry [.ref a0] (n := 2) (Nat.le_of_ble_eq_true rfl)
  rw [lg_entry_eq]
  generalize (lg_sl [.ref a0] ++ List.replicate (2 - (lg_sl [.ref a0]).length) Slot.unset).toArray = ls at hl ⊢
  have hl : lv_has ls 2 [(0, .ref a0)] := hl
  generalize hF9 : F_L_lostShare M = FF9
  have hM : FF9 = (adc 0 0 (K_L_lostShare_1 M (FF_X10_lostShare M))) := hF9.symm.trans (adc_0 _).symm
  refine lv_aload_n hx hb dL_lostShare_0 rfl (lv_at hl 0 rfl) ?_
  have hcon := (b_X10_lostShare l hl0 D ad H.size b hBL)
  rw [hM9, hb9] at hcon
  generalize hy_1 : (FF_X10_lostShare M) = y1 at hcon hM
  have hM : FF9 = (adc 0 0 (adc 1 6 (if y1.1 = 0 then (y1.2, M, 0, 0) else ((3296346112 : UInt32), M, 0, 0)))) := hM
  refine kzwb_ [] [] (vx_runV (As := []) (rest := []) ⟨hx, hb, hml, hown, hts⟩ hcon (cwV 0 hts gL_lostShare_X10_lostShare rfl rfl rfl (by decide +kernel) ⟨Nat.le_of_ble_eq_true rfl, Nat.le_of_ble_eq_true rfl⟩) ⟨PC_.blind, (by rw [← hb9]; exact bw_recv (X := []) (Y := []) hK hP), lw_pre (X := []) (Y := []) hF hK hP hD hS hA⟩ rfl rfl hl.1 rfl (lv_room (Nat.le_of_ble_eq_true rfl)) dL_lostShare_1 ⟨(adc_r1 hM), (adc_s1 hM)⟩) hK hP hD hS hA (fun b_1 H locs hpo hP hD hK hS => ?_) (fun E9 ce q9 b_1 H locs hE hP hD hK hS hce hvm hcl => ?_)
  · have hM : FF9 = (adc (0 + 1) (0 + 6) (if y1.1 = 0 then (y1.2, M, 0, 0) else ((3296346112 : UInt32), M, 0, 0))) := hM.trans (adc_adc _ _ _ _ _)
    obtain ⟨hst, hM9_1, hb9_1, hBL_1⟩ := hpo
    rw [if_pos hst] at hM
    have hXI_1 := hXI
    have hM9_1 : b_1.2.2.2 = M := hM9_1
    have hBL_1 : BL_ b_1 := hBL_1 hBL
    have hP : va_P D vwCl ([] ++ BWW ad b_1) H := hP
    have hD : va_D A ([] ++ BWW ad b_1) := hD
    have hK : va_K D vwCl ([] ++ BWT b_1) s := hK
    refine W.eq (g2 := F0 m 4 ls [.float y1.2]) rfl ?_
    refine W.widen (k := (FF9).2.2.1) (n := (FF9).2.2.2) (Nat.le_of_eq (by rw [hM]; first | done | rfl)) (Nat.le_of_eq (by rw [hM]; first | done | rfl)) ?_
    exact W.fret (v := y1.2) hx hb hr (lw_ret (X := []) (Y := []) b_1 hP hD hK hS (by rw [hM]; first | done | rfl) ⟨(by rw [hM]; exact hM9_1), hb9_1, hBL_1, (by rw [hM]; exact XI.mono hXI_1 (show Bd ≤ Bd + 0 from (by have z0 := hBd; omega)))⟩) hS.2.2 dL_lostShare_4
  · rcases hE with ⟨rfl, hst, hM9_1, hb9_1, hBL_1⟩
    · have hM : FF9 = (adc (0 + 1) (0 + 6) (if y1.1 = 0 then (y1.2, M, 0, 0) else ((3296346112 : UInt32), M, 0, 0))) := hM.trans (adc_adc _ _ _ _ _)
      rw [if_neg (show ¬ y1.1 = 0 from by rw [hst]; decide)] at hM
      have hXI_1 := hXI
      have hM9_1 : b_1.2.2.2 = M := hM9_1
      have hBL_1 : BL_ b_1 := hBL_1 hBL
      have hP : va_P D vwCl ([] ++ BWW ad b_1) H := hP
      have hD : va_D A ([] ++ BWW ad b_1) := hD
      have hK : va_K D vwCl ([] ++ BWT b_1) s := hK
      refine vx_catch (own := RL) (name := "java/lang/ArithmeticException") (E := "java/lang/ArithmeticException") hown [] (⟨0, 4, 5, 115⟩ : ExceptionTableEntry) [] (htb.trans rfl) (fun z hz => by cases hz) (by decide) (by decide) (hts (.classLink RL 115 "java/lang/ArithmeticException") (List.mem_of_getElem? (i := 1) (by decide +kernel))) (fxk_ hF "java/lang/ArithmeticException" "java/lang/ArithmeticException") hce hvm hcl ?_
      refine W.eq (g2 := F0 m 5 ls [.ref q9]) rfl ?_
      refine lv_astore_n (lv' := [(1, .ref q9), (0, .ref a0)]) hx hb dL_lostShare_5 rfl hl (by decide) rfl (fun ls hl => ?_)
      refine lv_ldcf (own := RL) hx hb hown (hts (.constantFloat RL 123 (3296346112)) (List.mem_of_getElem? (i := 2) (by decide +kernel))) dL_lostShare_6 ?_
      refine W.widen (k := (FF9).2.2.1) (n := (FF9).2.2.2) (Nat.le_of_eq (by rw [hM]; first | done | rfl)) (Nat.le_of_eq (by rw [hM]; first | done | rfl)) ?_
      exact W.fret (v := (3296346112 : UInt32)) hx hb hr (lw_ret (X := []) (Y := []) b_1 hP hD hK hS (by rw [hM]; first | done | rfl) ⟨(by rw [hM]; exact hM9_1), hb9_1, hBL_1, (by rw [hM]; exact XI.mono hXI_1 (show Bd ≤ Bd + 0 from (by have z0 := hBd; omega)))⟩) hS.2.2 dL_lostShare_8
def K_L_account_2 (M : MS) (y2 : Nat × Int32) : Int32 × MS × Nat × Nat := (adc 1 6 (if y2.1 = 0 then (y2.2, M, 0, 0) else ((-1001), M, 0, 0)))
def F_L_account (M : MS) (a1 : Int32) : Int32 × MS × Nat × Nat := (K_L_account_2 M (FF_X10_account M a1))
set_option maxHeartbeats 4000000 in
set_option maxRecDepth 100000 in
theorem bl_L_account (l : Launch) (hl0 : l.stackTraces = false) (D : va_G) (ad : Nat → Nat) (sz : Nat) (b : BX) (hBL : BL_ b) (a0 : Nat) (hb9 : b.1 79 = a0) (M : MS) (hM9 : b.2.2.2 = M) (Bd : Nat) (hXI : XI Bd M) (hBd : Bd + 0 ≤ 900000) (a1 : Int32) : Met l yL_account wsL_account ({ frames := 8, cells := (F_L_account M a1).2.2.1, slots := (F_L_account M a1).2.2.2, locals := 189 }) (PC_ D ad (BWW ad b) (BWT b) sz [.ref a0, .int a1]) (QB_ D (fun _ : BX => some (.int (F_L_account M a1).1)) (fun b' => b'.2.2.2 = (F_L_account M a1).2.1 ∧ b'.1 79 = a0 ∧ BL_ b' ∧ XI (Bd + 0) (F_L_account M a1).2.1) (BWW ad) BWT (va_A (BWW ad b) sz)) (F_L_account M a1).2.2.1 (F_L_account M a1).2.2.2 (va_A (BWW ad b) sz) := by
  refine va_MetW (cc := cL_account) (maxL := 3) (ret := (some .int)) (by decide) rfl ?_
  intro p e s m args below meth c s₁ B hml hv
  obtain ⟨rfl, hsz, hP, hK, hD0, hF⟩ := hv
  have hx := B.exec
  have hb := B.bytes
  have hr := B.returns
  have hts := atoms_spec (ws := wsL_account) B.pre
  have hown : s.vm.findClass RL = some m.cls := findClass_of_methodNamed B.named
  have hlocks := B.notSynchronized
  have htb := vx_table (x := yL_account) B (hts _ (List.mem_cons_self))
  subst hsz
  have hD := hD0.self (sz := s.heap.size)
  generalize hAe : va_A (BWW ad b) s.heap.size = A at hD hF ⊢
  have hA : ∀ q : Nat, s.heap.size ≤ q → A q := fun q h => by rw [← hAe]; exact Or.inr h
  obtain ⟨H, hHe⟩ : ∃ H : Heap, H = s.heap := ⟨_, rfl⟩
  have hS : va_S A s.heap H [] := by rw [hHe]; exact va_S.rf
  have hP : va_P D vwCl ([] ++ BWW ad b) H := by rw [hHe]; exact hP
  have hD : va_D A ([] ++ BWW ad b) := hD
  have hK : va_K D vwCl ([] ++ BWT b) s := hK
  rw [← hHe]
  have hl := lv_entry [.ref a0, .int a1] (n := 3) (Nat.le_of_ble_eq_true rfl)
  rw [lg_entry_eq]
  generalize (lg_sl [.ref a0, .int a1] ++ List.replicate (3 - (lg_sl [.ref a0, .int a1]).length) Slot.unset).toArray = ls at hl ⊢
  have hl : lv_has ls 3 [(0, .ref a0), (1, .int a1)] := hl
  generalize hF9 : F_L_account M a1 = FF9
  have hM : FF9 = (adc 0 0 (K_L_account_2 M (FF_X10_account M a1))) := hF9.symm.trans (adc_0 _).symm
  refine lv_aload_n hx hb dL_account_0 rfl (lv_at hl 0 rfl) ?_
  refine lv_iload_n hx hb dL_account_1 rfl (lv_at hl 1 rfl) ?_
  have hcon := (b_X10_account l hl0 D ad H.size b hBL a1 (by rw [hM9]; exact xh_X10_account hXI (show Bd ≤ 900000 from (by have h9 := (show Bd ≤ 900000 from (by have z0 := hBd; omega)); omega)) a1))
  rw [hM9, hb9] at hcon
  generalize hy_1 : (FF_X10_account M a1) = y2 at hcon hM
  have hM : FF9 = (adc 0 0 (adc 1 6 (if y2.1 = 0 then (y2.2, M, 0, 0) else ((-1001), M, 0, 0)))) := hM
  refine kzwb_ [] [] (vx_runV (As := [.int a1]) (rest := []) ⟨hx, hb, hml, hown, hts⟩ hcon (cwV 1 hts gL_account_X10_account rfl rfl rfl (by decide +kernel) ⟨Nat.le_of_ble_eq_true rfl, Nat.le_of_ble_eq_true rfl⟩) ⟨PC_.blind, (by rw [← hb9]; exact bw_recv (X := []) (Y := []) hK hP), lw_pre (X := []) (Y := []) hF hK hP hD hS hA⟩ rfl rfl hl.1 rfl (lv_room (Nat.le_of_ble_eq_true rfl)) dL_account_2 ⟨(adc_r1 hM), (adc_s1 hM)⟩) hK hP hD hS hA (fun b_1 H locs hpo hP hD hK hS => ?_) (fun E9 ce q9 b_1 H locs hE hP hD hK hS hce hvm hcl => ?_)
  · have hM : FF9 = (adc (0 + 1) (0 + 6) (if y2.1 = 0 then (y2.2, M, 0, 0) else ((-1001), M, 0, 0))) := hM.trans (adc_adc _ _ _ _ _)
    obtain ⟨hst, hM9_1, hb9_1, hBL_1⟩ := hpo
    rw [if_pos hst] at hM
    have hXI_1 := hXI
    have hM9_1 : b_1.2.2.2 = M := hM9_1
    have hP : va_P D vwCl ([] ++ BWW ad b_1) H := hP
    have hD : va_D A ([] ++ BWW ad b_1) := hD
    have hK : va_K D vwCl ([] ++ BWT b_1) s := hK
    refine W.eq (g2 := F0 m 5 ls [.int y2.2]) rfl ?_
    refine W.widen (k := (FF9).2.2.1) (n := (FF9).2.2.2) (Nat.le_of_eq (by rw [hM]; first | done | rfl)) (Nat.le_of_eq (by rw [hM]; first | done | rfl)) ?_
    exact W.iret (v := y2.2) hx hb hr (lw_ret (X := []) (Y := []) b_1 hP hD hK hS (by rw [hM]; first | done | rfl) ⟨(by rw [hM]; exact hM9_1), hb9_1, hBL_1, (by rw [hM]; exact XI.mono hXI_1 (show Bd ≤ Bd + 0 from (by have z0 := hBd; omega)))⟩) hS.2.2 dL_account_5
  · rcases hE with ⟨rfl, hst, hM9_1, hb9_1, hBL_1⟩
    · have hM : FF9 = (adc (0 + 1) (0 + 6) (if y2.1 = 0 then (y2.2, M, 0, 0) else ((-1001), M, 0, 0))) := hM.trans (adc_adc _ _ _ _ _)
      rw [if_neg (show ¬ y2.1 = 0 from by rw [hst]; decide)] at hM
      have hXI_1 := hXI
      have hM9_1 : b_1.2.2.2 = M := hM9_1
      have hP : va_P D vwCl ([] ++ BWW ad b_1) H := hP
      have hD : va_D A ([] ++ BWW ad b_1) := hD
      have hK : va_K D vwCl ([] ++ BWT b_1) s := hK
      refine vx_catch (own := RL) (name := "java/lang/IllegalArgumentException") (E := "java/lang/IllegalArgumentException") hown [] (⟨0, 5, 6, 38⟩ : ExceptionTableEntry) [] (htb.trans rfl) (fun z hz => by cases hz) (by decide) (by decide) (hts (.classLink RL 38 "java/lang/IllegalArgumentException") (List.mem_of_getElem? (i := 1) (by decide +kernel))) (fxk_ hF "java/lang/IllegalArgumentException" "java/lang/IllegalArgumentException") hce hvm hcl ?_
      refine W.eq (g2 := F0 m 6 ls [.ref q9]) rfl ?_
      refine lv_astore_n (lv' := [(2, .ref q9), (0, .ref a0), (1, .int a1)]) hx hb dL_account_6 rfl hl (by decide) rfl (fun ls hl => ?_)
      refine lv_sipush (v := (-1001)) hx hb dL_account_7 (by decide +kernel) ?_
      refine W.widen (k := (FF9).2.2.1) (n := (FF9).2.2.2) (Nat.le_of_eq (by rw [hM]; first | done | rfl)) (Nat.le_of_eq (by rw [hM]; first | done | rfl)) ?_
      exact W.iret (v := (-1001)) hx hb hr (lw_ret (X := []) (Y := []) b_1 hP hD hK hS (by rw [hM]; first | done | rfl) ⟨(by rw [hM]; exact hM9_1), hb9_1, hBL_1, (by rw [hM]; exact XI.mono hXI_1 (show Bd ≤ Bd + 0 from (by have z0 := hBd; omega)))⟩) hS.2.2 dL_account_10
def K_L_undo_1 (M : MS) (y1 : Nat × Int32 × (Nat → Int32) × (Nat → Int32) × (Nat → Int32) × Nat × (Nat → Int32) × Int32 × Int32 × Int32 × Int32 × Int32 × Int32 × Int32 × Int32 × Int32 × Nat × Nat) : Int32 × MS × Nat × Nat := (adc y1.2.2.2.2.2.2.2.2.2.2.2.2.2.2.2.2.1 y1.2.2.2.2.2.2.2.2.2.2.2.2.2.2.2.2.2 (if y1.1 = 0 then (y1.2.1, (T_X10_undo M y1), 0, 0) else ((-1001), (T_X10_undo M y1), 0, 0)))
def F_L_undo (M : MS) : Int32 × MS × Nat × Nat := (K_L_undo_1 M (FF_X10_undo M))
set_option maxHeartbeats 4000000 in
set_option maxRecDepth 100000 in
theorem bl_L_undo (l : Launch) (hl0 : l.stackTraces = false) (D : va_G) (ad : Nat → Nat) (sz : Nat) (b : BX) (hBL : BL_ b) (a0 : Nat) (hb9 : b.1 79 = a0) (M : MS) (hM9 : b.2.2.2 = M) (Bd : Nat) (hXI : XI Bd M) (hBd : Bd + 0 ≤ 900000) : Met l yL_undo wsL_undo ({ frames := 7, cells := (F_L_undo M).2.2.1, slots := (F_L_undo M).2.2.2, locals := 151 }) (PC_ D ad (BWW ad b) (BWT b) sz [.ref a0]) (QB_ D (fun _ : BX => some (.int (F_L_undo M).1)) (fun b' => b'.2.2.2 = (F_L_undo M).2.1 ∧ b'.1 79 = a0 ∧ BL_ b' ∧ XI (Bd + 0) (F_L_undo M).2.1) (BWW ad) BWT (va_A (BWW ad b) sz)) (F_L_undo M).2.2.1 (F_L_undo M).2.2.2 (va_A (BWW ad b) sz) := by
  refine va_MetW (cc := cL_undo) (maxL := 2) (ret := (some .int)) (by decide) rfl ?_
  intro p e s m args below meth c s₁ B hml hv
  obtain ⟨rfl, hsz, hP, hK, hD0, hF⟩ := hv
  have hx := B.exec
  have hb := B.bytes
  have hr := B.returns
  have hts := atoms_spec (ws := wsL_undo) B.pre
  have hown : s.vm.findClass RL = some m.cls := findClass_of_methodNamed B.named
  have hlocks := B.notSynchronized
  have htb := vx_table (x := yL_undo) B (hts _ (List.mem_cons_self))
  subst hsz
  have hD := hD0.self (sz := s.heap.size)
  generalize hAe : va_A (BWW ad b) s.heap.size = A at hD hF ⊢
  have hA : ∀ q : Nat, s.heap.size ≤ q → A q := fun q h => by rw [← hAe]; exact Or.inr h
  obtain ⟨H, hHe⟩ : ∃ H : Heap, H = s.heap := ⟨_, rfl⟩
  have hS : va_S A s.heap H [] := by rw [hHe]; exact va_S.rf
  have hP : va_P D vwCl ([] ++ BWW ad b) H := by rw [hHe]; exact hP
  have hD : va_D A ([] ++ BWW ad b) := hD
  have hK : va_K D vwCl ([] ++ BWT b) s := hK
  rw [← hHe]
  have hl := lv_entry [.ref a0] (n := 2) (Nat.le_of_ble_eq_true rfl)
  rw [lg_entry_eq]
  generalize (lg_sl [.ref a0] ++ List.replicate (2 - (lg_sl [.ref a0]).length) Slot.unset).toArray = ls at hl ⊢
  have hl : lv_has ls 2 [(0, .ref a0)] := hl
  generalize hF9 : F_L_undo M = FF9
  have hM : FF9 = (adc 0 0 (K_L_undo_1 M (FF_X10_undo M))) := hF9.symm.trans (adc_0 _).symm
  refine lv_aload_n hx hb dL_undo_0 rfl (lv_at hl 0 rfl) ?_
  have hcon := (b_X10_undo l hl0 D ad H.size b hBL (by rw [hM9]; exact xh_X10_undo hXI (show Bd ≤ 900000 from (by have h9 := (show Bd ≤ 900000 from (by have z0 := hBd; omega)); omega))))
  rw [hM9, hb9] at hcon
  generalize hy_1 : (FF_X10_undo M) = y1 at hcon hM
  have hM : FF9 = (adc 0 0 (adc y1.2.2.2.2.2.2.2.2.2.2.2.2.2.2.2.2.1 y1.2.2.2.2.2.2.2.2.2.2.2.2.2.2.2.2.2 (if y1.1 = 0 then (y1.2.1, (T_X10_undo M y1), 0, 0) else ((-1001), (T_X10_undo M y1), 0, 0)))) := hM
  refine kzwb_ [] [] (vx_runV (As := []) (rest := []) ⟨hx, hb, hml, hown, hts⟩ hcon (cwV 0 hts gL_undo_X10_undo rfl rfl rfl (by decide +kernel) ⟨Nat.le_of_ble_eq_true rfl, Nat.le_of_ble_eq_true rfl⟩) ⟨PC_.blind, (by rw [← hb9]; exact bw_recv (X := []) (Y := []) hK hP), lw_pre (X := []) (Y := []) hF hK hP hD hS hA⟩ rfl rfl hl.1 rfl (lv_room (Nat.le_of_ble_eq_true rfl)) dL_undo_1 ⟨(adc_r1 hM), (adc_s1 hM)⟩) hK hP hD hS hA (fun b_1 H locs hpo hP hD hK hS => ?_) (fun E9 ce q9 b_1 H locs hE hP hD hK hS hce hvm hcl => ?_)
  · have hM : FF9 = (adc (0 + y1.2.2.2.2.2.2.2.2.2.2.2.2.2.2.2.2.1) (0 + y1.2.2.2.2.2.2.2.2.2.2.2.2.2.2.2.2.2) (if y1.1 = 0 then (y1.2.1, (T_X10_undo M y1), 0, 0) else ((-1001), (T_X10_undo M y1), 0, 0))) := hM.trans (adc_adc _ _ _ _ _)
    obtain ⟨hst, hM9_1, hb9_1, hen, hBL_1⟩ := hpo
    rw [if_pos hst] at hM
    have hXI_1 : XI Bd (T_X10_undo M y1) := by rw [← hy_1]; exact xt_T_X10_undo hXI (show Bd ≤ 900000 from (by have h9 := (show Bd ≤ 900000 from (by have z0 := hBd; omega)); omega)) (by rw [hy_1]; exact hen)
    have hM9_1 : b_1.2.2.2 = (T_X10_undo M y1) := hM9_1
    have hBL_1 : BL_ b_1 := hBL_1 hBL
    have hP : va_P D vwCl ([] ++ BWW ad b_1) H := hP
    have hD : va_D A ([] ++ BWW ad b_1) := hD
    have hK : va_K D vwCl ([] ++ BWT b_1) s := hK
    refine W.eq (g2 := F0 m 4 ls [.int y1.2.1]) rfl ?_
    refine W.widen (k := (FF9).2.2.1) (n := (FF9).2.2.2) (Nat.le_of_eq (by rw [hM]; first | done | rfl)) (Nat.le_of_eq (by rw [hM]; first | done | rfl)) ?_
    exact W.iret (v := y1.2.1) hx hb hr (lw_ret (X := []) (Y := []) b_1 hP hD hK hS (by rw [hM]; first | done | rfl) ⟨(by rw [hM]; exact hM9_1), hb9_1, hBL_1, (by rw [hM]; exact XI.mono hXI_1 (show Bd ≤ Bd + 0 from (by have z0 := hBd; omega)))⟩) hS.2.2 dL_undo_4
  · rcases hE with ⟨rfl, hst, hM9_1, hb9_1, hen, hBL_1⟩
    · have hM : FF9 = (adc (0 + y1.2.2.2.2.2.2.2.2.2.2.2.2.2.2.2.2.1) (0 + y1.2.2.2.2.2.2.2.2.2.2.2.2.2.2.2.2.2) (if y1.1 = 0 then (y1.2.1, (T_X10_undo M y1), 0, 0) else ((-1001), (T_X10_undo M y1), 0, 0))) := hM.trans (adc_adc _ _ _ _ _)
      rw [if_neg (show ¬ y1.1 = 0 from by rw [hst]; decide)] at hM
      have hXI_1 : XI Bd (T_X10_undo M y1) := by rw [← hy_1]; exact xt_T_X10_undo hXI (show Bd ≤ 900000 from (by have h9 := (show Bd ≤ 900000 from (by have z0 := hBd; omega)); omega)) (by rw [hy_1]; exact hen)
      have hM9_1 : b_1.2.2.2 = (T_X10_undo M y1) := hM9_1
      have hBL_1 : BL_ b_1 := hBL_1 hBL
      have hP : va_P D vwCl ([] ++ BWW ad b_1) H := hP
      have hD : va_D A ([] ++ BWW ad b_1) := hD
      have hK : va_K D vwCl ([] ++ BWT b_1) s := hK
      refine vx_catch (own := RL) (name := "java/lang/IllegalStateException") (E := "java/lang/IllegalStateException") hown [] (⟨0, 4, 5, 95⟩ : ExceptionTableEntry) [] (htb.trans rfl) (fun z hz => by cases hz) (by decide) (by decide) (hts (.classLink RL 95 "java/lang/IllegalStateException") (List.mem_of_getElem? (i := 1) (by decide +kernel))) (fxk_ hF "java/lang/IllegalStateException" "java/lang/IllegalStateException") hce hvm hcl ?_
      refine W.eq (g2 := F0 m 5 ls [.ref q9]) rfl ?_
      refine lv_astore_n (lv' := [(1, .ref q9), (0, .ref a0)]) hx hb dL_undo_5 rfl hl (by decide) rfl (fun ls hl => ?_)
      refine lv_sipush (v := (-1001)) hx hb dL_undo_6 (by decide +kernel) ?_
      refine W.widen (k := (FF9).2.2.1) (n := (FF9).2.2.2) (Nat.le_of_eq (by rw [hM]; first | done | rfl)) (Nat.le_of_eq (by rw [hM]; first | done | rfl)) ?_
      exact W.iret (v := (-1001)) hx hb hr (lw_ret (X := []) (Y := []) b_1 hP hD hK hS (by rw [hM]; first | done | rfl) ⟨(by rw [hM]; exact hM9_1), hb9_1, hBL_1, (by rw [hM]; exact XI.mono hXI_1 (show Bd ≤ Bd + 0 from (by have z0 := hBd; omega)))⟩) hS.2.2 dL_undo_9
def K_L_restore_1 (M : MS) (y1 : Nat × Int32 × (Nat → Int32) × (Nat → Int32) × (Nat → Int32) × Nat × (Nat → Int32) × Int32 × Int32 × Int32 × Int32 × Int32 × Int32 × Int32 × Int32 × Nat × Nat) : Int32 × MS × Nat × Nat := (adc y1.2.2.2.2.2.2.2.2.2.2.2.2.2.2.2.1 y1.2.2.2.2.2.2.2.2.2.2.2.2.2.2.2.2 (if y1.1 = 0 then (y1.2.1, (T_X10_restore M y1), 0, 0) else ((-1001), (T_X10_restore M y1), 0, 0)))
def F_L_restore (M : MS) : Int32 × MS × Nat × Nat := (K_L_restore_1 M (FF_X10_restore M))
set_option maxHeartbeats 4000000 in
set_option maxRecDepth 100000 in
theorem bl_L_restore (l : Launch) (hl0 : l.stackTraces = false) (D : va_G) (ad : Nat → Nat) (sz : Nat) (b : BX) (hBL : BL_ b) (a0 : Nat) (hb9 : b.1 79 = a0) (M : MS) (hM9 : b.2.2.2 = M) (Bd : Nat) (hXI : XI Bd M) (hBd : Bd + 0 ≤ 900000) : Met l yL_restore wsL_restore ({ frames := 7, cells := (F_L_restore M).2.2.1, slots := (F_L_restore M).2.2.2, locals := 128 }) (PC_ D ad (BWW ad b) (BWT b) sz [.ref a0]) (QB_ D (fun _ : BX => some (.int (F_L_restore M).1)) (fun b' => b'.2.2.2 = (F_L_restore M).2.1 ∧ b'.1 79 = a0 ∧ BL_ b' ∧ XI (Bd + 0) (F_L_restore M).2.1) (BWW ad) BWT (va_A (BWW ad b) sz)) (F_L_restore M).2.2.1 (F_L_restore M).2.2.2 (va_A (BWW ad b) sz) := by
  refine va_MetW (cc := cL_restore) (maxL := 2) (ret := (some .int)) (by decide) rfl ?_
  intro p e s m args below meth c s₁ B hml hv
  obtain ⟨rfl, hsz, hP, hK, hD0, hF⟩ := hv
  have hx := B.exec
  have hb := B.bytes
  have hr := B.returns
  have hts := atoms_spec (ws := wsL_restore) B.pre
  have hown : s.vm.findClass RL = some m.cls := findClass_of_methodNamed B.named
  have hlocks := B.notSynchronized
  have htb := vx_table (x := yL_restore) B (hts _ (List.mem_cons_self))
  subst hsz
  have hD := hD0.self (sz := s.heap.size)
  generalize hAe : va_A (BWW ad b) s.heap.size = A at hD hF ⊢
  have hA : ∀ q : Nat, s.heap.size ≤ q → A q := fun q h => by rw [← hAe]; exact Or.inr h
  obtain ⟨H, hHe⟩ : ∃ H : Heap, H = s.heap := ⟨_, rfl⟩
  have hS : va_S A s.heap H [] := by rw [hHe]; exact va_S.rf
  have hP : va_P D vwCl ([] ++ BWW ad b) H := by rw [hHe]; exact hP
  have hD : va_D A ([] ++ BWW ad b) := hD
  have hK : va_K D vwCl ([] ++ BWT b) s := hK
  rw [← hHe]
  have hl := lv_entry [.ref a0] (n := 2) (Nat.le_of_ble_eq_true rfl)
  rw [lg_entry_eq]
  generalize (lg_sl [.ref a0] ++ List.replicate (2 - (lg_sl [.ref a0]).length) Slot.unset).toArray = ls at hl ⊢
  have hl : lv_has ls 2 [(0, .ref a0)] := hl
  generalize hF9 : F_L_restore M = FF9
  have hM : FF9 = (adc 0 0 (K_L_restore_1 M (FF_X10_restore M))) := hF9.symm.trans (adc_0 _).symm
  refine lv_aload_n hx hb dL_restore_0 rfl (lv_at hl 0 rfl) ?_
  have hcon := (b_X10_restore l hl0 D ad H.size b hBL (by rw [hM9]; exact xh_X10_restore hXI (show Bd ≤ 900000 from (by have h9 := (show Bd ≤ 900000 from (by have z0 := hBd; omega)); omega))))
  rw [hM9, hb9] at hcon
  generalize hy_1 : (FF_X10_restore M) = y1 at hcon hM
  have hM : FF9 = (adc 0 0 (adc y1.2.2.2.2.2.2.2.2.2.2.2.2.2.2.2.1 y1.2.2.2.2.2.2.2.2.2.2.2.2.2.2.2.2 (if y1.1 = 0 then (y1.2.1, (T_X10_restore M y1), 0, 0) else ((-1001), (T_X10_restore M y1), 0, 0)))) := hM
  refine kzwb_ [] [] (vx_runV (As := []) (rest := []) ⟨hx, hb, hml, hown, hts⟩ hcon (cwV 0 hts gL_restore_X10_restore rfl rfl rfl (by decide +kernel) ⟨Nat.le_of_ble_eq_true rfl, Nat.le_of_ble_eq_true rfl⟩) ⟨PC_.blind, (by rw [← hb9]; exact bw_recv (X := []) (Y := []) hK hP), lw_pre (X := []) (Y := []) hF hK hP hD hS hA⟩ rfl rfl hl.1 rfl (lv_room (Nat.le_of_ble_eq_true rfl)) dL_restore_1 ⟨(adc_r1 hM), (adc_s1 hM)⟩) hK hP hD hS hA (fun b_1 H locs hpo hP hD hK hS => ?_) (fun E9 ce q9 b_1 H locs hE hP hD hK hS hce hvm hcl => ?_)
  · have hM : FF9 = (adc (0 + y1.2.2.2.2.2.2.2.2.2.2.2.2.2.2.2.1) (0 + y1.2.2.2.2.2.2.2.2.2.2.2.2.2.2.2.2) (if y1.1 = 0 then (y1.2.1, (T_X10_restore M y1), 0, 0) else ((-1001), (T_X10_restore M y1), 0, 0))) := hM.trans (adc_adc _ _ _ _ _)
    obtain ⟨hst, hM9_1, hb9_1, hen, hBL_1⟩ := hpo
    rw [if_pos hst] at hM
    have hXI_1 : XI Bd (T_X10_restore M y1) := by rw [← hy_1]; exact xt_T_X10_restore hXI (show Bd ≤ 900000 from (by have h9 := (show Bd ≤ 900000 from (by have z0 := hBd; omega)); omega)) (by rw [hy_1]; exact hen)
    have hM9_1 : b_1.2.2.2 = (T_X10_restore M y1) := hM9_1
    have hBL_1 : BL_ b_1 := hBL_1 hBL
    have hP : va_P D vwCl ([] ++ BWW ad b_1) H := hP
    have hD : va_D A ([] ++ BWW ad b_1) := hD
    have hK : va_K D vwCl ([] ++ BWT b_1) s := hK
    refine W.eq (g2 := F0 m 4 ls [.int y1.2.1]) rfl ?_
    refine W.widen (k := (FF9).2.2.1) (n := (FF9).2.2.2) (Nat.le_of_eq (by rw [hM]; first | done | rfl)) (Nat.le_of_eq (by rw [hM]; first | done | rfl)) ?_
    exact W.iret (v := y1.2.1) hx hb hr (lw_ret (X := []) (Y := []) b_1 hP hD hK hS (by rw [hM]; first | done | rfl) ⟨(by rw [hM]; exact hM9_1), hb9_1, hBL_1, (by rw [hM]; exact XI.mono hXI_1 (show Bd ≤ Bd + 0 from (by have z0 := hBd; omega)))⟩) hS.2.2 dL_restore_4
  · rcases hE with ⟨rfl, hst, hM9_1, hb9_1, hen, hBL_1⟩
    · have hM : FF9 = (adc (0 + y1.2.2.2.2.2.2.2.2.2.2.2.2.2.2.2.1) (0 + y1.2.2.2.2.2.2.2.2.2.2.2.2.2.2.2.2) (if y1.1 = 0 then (y1.2.1, (T_X10_restore M y1), 0, 0) else ((-1001), (T_X10_restore M y1), 0, 0))) := hM.trans (adc_adc _ _ _ _ _)
      rw [if_neg (show ¬ y1.1 = 0 from by rw [hst]; decide)] at hM
      have hXI_1 : XI Bd (T_X10_restore M y1) := by rw [← hy_1]; exact xt_T_X10_restore hXI (show Bd ≤ 900000 from (by have h9 := (show Bd ≤ 900000 from (by have z0 := hBd; omega)); omega)) (by rw [hy_1]; exact hen)
      have hM9_1 : b_1.2.2.2 = (T_X10_restore M y1) := hM9_1
      have hBL_1 : BL_ b_1 := hBL_1 hBL
      have hP : va_P D vwCl ([] ++ BWW ad b_1) H := hP
      have hD : va_D A ([] ++ BWW ad b_1) := hD
      have hK : va_K D vwCl ([] ++ BWT b_1) s := hK
      refine vx_catch (own := RL) (name := "java/lang/IllegalStateException") (E := "java/lang/IllegalStateException") hown [] (⟨0, 4, 5, 95⟩ : ExceptionTableEntry) [] (htb.trans rfl) (fun z hz => by cases hz) (by decide) (by decide) (hts (.classLink RL 95 "java/lang/IllegalStateException") (List.mem_of_getElem? (i := 1) (by decide +kernel))) (fxk_ hF "java/lang/IllegalStateException" "java/lang/IllegalStateException") hce hvm hcl ?_
      refine W.eq (g2 := F0 m 5 ls [.ref q9]) rfl ?_
      refine lv_astore_n (lv' := [(1, .ref q9), (0, .ref a0)]) hx hb dL_restore_5 rfl hl (by decide) rfl (fun ls hl => ?_)
      refine lv_sipush (v := (-1001)) hx hb dL_restore_6 (by decide +kernel) ?_
      refine W.widen (k := (FF9).2.2.1) (n := (FF9).2.2.2) (Nat.le_of_eq (by rw [hM]; first | done | rfl)) (Nat.le_of_eq (by rw [hM]; first | done | rfl)) ?_
      exact W.iret (v := (-1001)) hx hb hr (lw_ret (X := []) (Y := []) b_1 hP hD hK hS (by rw [hM]; first | done | rfl) ⟨(by rw [hM]; exact hM9_1), hb9_1, hBL_1, (by rw [hM]; exact XI.mono hXI_1 (show Bd ≤ Bd + 0 from (by have z0 := hBd; omega)))⟩) hS.2.2 dL_restore_9
