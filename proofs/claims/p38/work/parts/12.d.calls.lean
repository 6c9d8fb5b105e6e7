def K_L_come_1 (M : MS) (y1 : Nat × Int32 × Nat × Int32 × (Nat → Int32) × Nat × (Nat → Int32) × Int32 × Int32 × Int32 × Int32 × Int32 × Int32 × (Nat → Nat → Int32) × (Nat → Nat → Int32) × (Nat → Nat → Int32) × (Nat → Nat → Int32) × (Nat → Nat) × (Nat → Int32) × (Nat → Int32) × (Nat → Int32) × (Nat → Int32) × (Nat → Int32) × (Nat → Int32) × (Nat → Int32) × Int32 × Int32 × List PG × Nat × Nat) : Int32 × MS × Nat × Nat := (adc y1.2.2.2.2.2.2.2.2.2.2.2.2.2.2.2.2.2.2.2.2.2.2.2.2.2.2.2.2.1 y1.2.2.2.2.2.2.2.2.2.2.2.2.2.2.2.2.2.2.2.2.2.2.2.2.2.2.2.2.2 (if y1.1 = 0 then (y1.2.1, (T_X10_come M y1), 0, 0) else ((-1001), (TX_X10_come M y1), 0, 0)))
def F_L_come (M : MS) : Int32 × MS × Nat × Nat := (K_L_come_1 M (FF_X10_come M))
set_option maxHeartbeats 4000000 in
set_option maxRecDepth 100000 in
theorem bl_L_come (l : Launch) (hl0 : l.stackTraces = false) (D : va_G) (ad : Nat → Nat) (sz : Nat) (b : BX) (hBL : BL_ b) (a0 : Nat) (hb9 : b.1 79 = a0) (M : MS) (hM9 : b.2.2.2 = M) (Bd : Nat) (hXI : XI Bd M) (hBd : Bd + 600 ≤ 900000) : Met l yL_come wsL_come ({ frames := 13, cells := (F_L_come M).2.2.1, slots := (F_L_come M).2.2.2, locals := 350 }) (PC_ D ad (BWW ad b) (BWT b) sz [.ref a0]) (QB_ D (fun _ : BX => some (.int (F_L_come M).1)) (fun b' => b'.2.2.2 = (F_L_come M).2.1 ∧ b'.1 79 = a0 ∧ BL_ b' ∧ XI (Bd + 600) (F_L_come M).2.1) (BWW ad) BWT (va_A (BWW ad b) sz)) (F_L_come M).2.2.1 (F_L_come M).2.2.2 (va_A (BWW ad b) sz) := by
  refine va_MetW (cc := cL_come) (maxL := 2) (ret := (some .int)) (by decide) rfl ?_
  intro p e s m args below meth c s₁ B hml hv
  obtain ⟨rfl, hsz, hP, hK, hD0, hF⟩ := hv
  have hx := B.exec
  have hb := B.bytes
  have hr := B.returns
  have hts := atoms_spec (ws := wsL_come) B.pre
  have hown : s.vm.findClass RL = some m.cls := findClass_of_methodNamed B.named
  have hlocks := B.notSynchronized
  have htb := vx_table (x := yL_come) B (hts _ (List.mem_cons_self))
  subst hsz
  have hD := hD0.self (sz := s.heap.size)
  generalize hAe : va_A (BWW ad b) s.heap.size = A at hD hF ⊢
  have hA : ∀ q : Nat, s.heap.size ≤ q → A q := fun q h => by rw [← hAe]; exact Or.inr h
  obtain ⟨H, hHe⟩ : ∃ H : Heap, H = s.heap := ⟨_, rfl⟩
  have hS : va_S A s.heap H [] := by rw [hHe]; exact va_S.rf
  have hP : va_P D vwCl ([] ++ BWW ad b) H := by rw [hHe]; exact hP
  have hD : va_D A ([] ++ BWW ad b) := hD
  have hK : va_K D vwCl ([] ++ BWT b) s := hK
  rw [← hHe]
  have hl := lv_entry [.ref a0] (n := 2) (Nat.le_of_ble_eq_true rfl)
  rw [lg_entry_eq]
  generalize (lg_sl [.ref a0] ++ List.replicate (2 - (lg_sl [.ref a0]).length) Slot.unset).toArray = ls at hl ⊢
  have hl : lv_has ls 2 [(0, .ref a0)] := hl
  generalize hF9 : F_L_come M = FF9
  have hM : FF9 = (adc 0 0 (K_L_come_1 M (FF_X10_come M))) := hF9.symm.trans (adc_0 _).symm
  refine lv_aload_n hx hb dL_come_0 rfl (lv_at hl 0 rfl) ?_
  have hcon := (b_X10_come l hl0 D ad H.size b hBL (by rw [hM9]; exact xh_X10_come hXI (show Bd ≤ 900000 from (by have h9 := (show (Bd + 600) ≤ 900000 from (by have z0 := hBd; omega)); omega))))
  rw [hM9, hb9] at hcon
  generalize hy_1 : (FF_X10_come M) = y1 at hcon hM
  have hM : FF9 = (adc 0 0 (adc y1.2.2.2.2.2.2.2.2.2.2.2.2.2.2.2.2.2.2.2.2.2.2.2.2.2.2.2.2.1 y1.2.2.2.2.2.2.2.2.2.2.2.2.2.2.2.2.2.2.2.2.2.2.2.2.2.2.2.2.2 (if y1.1 = 0 then (y1.2.1, (T_X10_come M y1), 0, 0) else ((-1001), (TX_X10_come M y1), 0, 0)))) := hM
  refine kzwb_ [] [] (vx_runV (As := []) (rest := []) ⟨hx, hb, hml, hown, hts⟩ hcon (cwV 0 hts gL_come_X10_come rfl rfl rfl (by decide +kernel) ⟨Nat.le_of_ble_eq_true rfl, Nat.le_of_ble_eq_true rfl⟩) ⟨PC_.blind, (by rw [← hb9]; exact bw_recv (X := []) (Y := []) hK hP), lw_pre (X := []) (Y := []) hF hK hP hD hS hA⟩ rfl rfl hl.1 rfl (lv_room (Nat.le_of_ble_eq_true rfl)) dL_come_1 ⟨(adc_r1 hM), (adc_s1 hM)⟩) hK hP hD hS hA (fun b_1 H locs hpo hP hD hK hS => ?_) (fun E9 ce q9 b_1 H locs hE hP hD hK hS hce hvm hcl => ?_)
  · have hM : FF9 = (adc (0 + y1.2.2.2.2.2.2.2.2.2.2.2.2.2.2.2.2.2.2.2.2.2.2.2.2.2.2.2.2.1) (0 + y1.2.2.2.2.2.2.2.2.2.2.2.2.2.2.2.2.2.2.2.2.2.2.2.2.2.2.2.2.2) (if y1.1 = 0 then (y1.2.1, (T_X10_come M y1), 0, 0) else ((-1001), (TX_X10_come M y1), 0, 0))) := hM.trans (adc_adc _ _ _ _ _)
    obtain ⟨hst, hM9_1, hb9_1, hen, hBL_1⟩ := hpo
    rw [if_pos hst] at hM
    have hXI_1 : XI (Bd + 600) (T_X10_come M y1) := by rw [← hy_1]; exact xt_T_X10_come hXI (show Bd ≤ 900000 from (by have h9 := (show (Bd + 600) ≤ 900000 from (by have z0 := hBd; omega)); omega)) (by rw [hy_1]; exact hen) (by rw [hy_1, hst]; decide)
    have hM9_1 : b_1.2.2.2 = (T_X10_come M y1) := hM9_1
    have hP : va_P D vwCl ([] ++ BWW ad b_1) H := hP
    have hD : va_D A ([] ++ BWW ad b_1) := hD
    have hK : va_K D vwCl ([] ++ BWT b_1) s := hK
    refine W.eq (g2 := F0 m 4 ls [.int y1.2.1]) rfl ?_
    refine W.widen (k := (FF9).2.2.1) (n := (FF9).2.2.2) (Nat.le_of_eq (by rw [hM]; first | done | rfl)) (Nat.le_of_eq (by rw [hM]; first | done | rfl)) ?_
    exact W.iret (v := y1.2.1) hx hb hr (lw_ret (X := []) (Y := []) b_1 hP hD hK hS (by rw [hM]; first | done | rfl) ⟨(by rw [hM]; exact hM9_1), hb9_1, hBL_1, (by rw [hM]; exact XI.mono hXI_1 (show (Bd + 600) ≤ Bd + 600 from (by have z0 := hBd; omega)))⟩) hS.2.2 dL_come_4
  · rcases hE with ⟨rfl, hst, hM9_1, hb9_1, hen, hBL_1⟩
    · have hM : FF9 = (adc (0 + y1.2.2.2.2.2.2.2.2.2.2.2.2.2.2.2.2.2.2.2.2.2.2.2.2.2.2.2.2.1) (0 + y1.2.2.2.2.2.2.2.2.2.2.2.2.2.2.2.2.2.2.2.2.2.2.2.2.2.2.2.2.2) (if y1.1 = 0 then (y1.2.1, (T_X10_come M y1), 0, 0) else ((-1001), (TX_X10_come M y1), 0, 0))) := hM.trans (adc_adc _ _ _ _ _)
      rw [if_neg (show ¬ y1.1 = 0 from by rw [hst]; decide)] at hM
      have hXI_1 : XI (Bd + 600) (TX_X10_come M y1) := by rw [← hy_1]; exact xt_TX_X10_come hXI (show Bd ≤ 900000 from (by have h9 := (show (Bd + 600) ≤ 900000 from (by have z0 := hBd; omega)); omega)) (by rw [hy_1]; exact hen) (by rw [hy_1, hst])
      have hM9_1 : b_1.2.2.2 = (TX_X10_come M y1) := hM9_1
      have hP : va_P D vwCl ([] ++ BWW ad b_1) H := hP
      have hD : va_D A ([] ++ BWW ad b_1) := hD
      have hK : va_K D vwCl ([] ++ BWT b_1) s := hK
      refine vx_catch (own := RL) (name := "java/lang/UnsupportedOperationException") (E := "java/lang/UnsupportedOperationException") hown [] (⟨0, 4, 5, 13⟩ : ExceptionTableEntry) [] (htb.trans rfl) (fun z hz => by cases hz) (by decide) (by decide) (hts (.classLink RL 13 "java/lang/UnsupportedOperationException") (List.mem_of_getElem? (i := 1) (by decide +kernel))) (fxk_ hF "java/lang/UnsupportedOperationException" "java/lang/UnsupportedOperationException") hce hvm hcl ?_
      refine W.eq (g2 := F0 m 5 ls [.ref q9]) rfl ?_
      refine lv_astore_n (lv' := [(1, .ref q9), (0, .ref a0)]) hx hb dL_come_5 rfl hl (by decide) rfl (fun ls hl => ?_)
      refine lv_sipush (v := (-1001)) hx hb dL_come_6 (by decide +kernel) ?_
      refine W.widen (k := (FF9).2.2.1) (n := (FF9).2.2.2) (Nat.le_of_eq (by rw [hM]; first | done | rfl)) (Nat.le_of_eq (by rw [hM]; first | done | rfl)) ?_
      exact W.iret (v := (-1001)) hx hb hr (lw_ret (X := []) (Y := []) b_1 hP hD hK hS (by rw [hM]; first | done | rfl) ⟨(by rw [hM]; exact hM9_1), hb9_1, hBL_1, (by rw [hM]; exact XI.mono hXI_1 (show (Bd + 600) ≤ Bd + 600 from (by have z0 := hBd; omega)))⟩) hS.2.2 dL_come_9
def K_L_canal_4 (M : MS) (y4 : Nat × Int32 × Nat × Int32 × (Nat → Int32) × (Nat → Int32) × Nat × (Nat → Int32) × Int32 × Int32 × Int32 × Int32 × Int32 × (Nat → Nat → Int32) × (Nat → Nat → Int32) × (Nat → Nat → Int32) × (Nat → Nat → Int32) × (Nat → Nat) × (Nat → Int32) × (Nat → Int32) × (Nat → Int32) × (Nat → Int32) × (Nat → Int32) × (Nat → Int32) × (Nat → Int32) × Int32 × Int32 × List PG × Nat × Nat) : Int32 × MS × Nat × Nat := (adc y4.2.2.2.2.2.2.2.2.2.2.2.2.2.2.2.2.2.2.2.2.2.2.2.2.2.2.2.2.1 y4.2.2.2.2.2.2.2.2.2.2.2.2.2.2.2.2.2.2.2.2.2.2.2.2.2.2.2.2.2 (if y4.1 = 0 then (y4.2.1, (T_X10_canal M y4), 0, 0) else ((-1001), (TX_X10_canal M y4), 0, 0)))
def F_L_canal (M : MS) (a1 : Int32) (a2 : Int32) (a3 : Int32) : Int32 × MS × Nat × Nat := (K_L_canal_4 M (FF_X10_canal M a1 a2 a3))
set_option maxHeartbeats 4000000 in
set_option maxRecDepth 100000 in
theorem bl_L_canal (l : Launch) (hl0 : l.stackTraces = false) (D : va_G) (ad : Nat → Nat) (sz : Nat) (b : BX) (hBL : BL_ b) (a0 : Nat) (hb9 : b.1 79 = a0) (M : MS) (hM9 : b.2.2.2 = M) (Bd : Nat) (hXI : XI Bd M) (hBd : Bd + 600 ≤ 900000) (a1 : Int32) (a2 : Int32) (a3 : Int32) : Met l yL_canal wsL_canal ({ frames := 13, cells := (F_L_canal M a1 a2 a3).2.2.1, slots := (F_L_canal M a1 a2 a3).2.2.2, locals := 356 }) (PC_ D ad (BWW ad b) (BWT b) sz [.ref a0, .int a1, .int a2, .int a3]) (QB_ D (fun _ : BX => some (.int (F_L_canal M a1 a2 a3).1)) (fun b' => b'.2.2.2 = (F_L_canal M a1 a2 a3).2.1 ∧ b'.1 79 = a0 ∧ BL_ b' ∧ XI (Bd + 600) (F_L_canal M a1 a2 a3).2.1) (BWW ad) BWT (va_A (BWW ad b) sz)) (F_L_canal M a1 a2 a3).2.2.1 (F_L_canal M a1 a2 a3).2.2.2 (va_A (BWW ad b) sz) := by
  refine va_MetW (cc := cL_canal) (maxL := 5) (ret := (some .int)) (by decide) rfl ?_
  intro p e s m args below meth c s₁ B hml hv
  obtain ⟨rfl, hsz, hP, hK, hD0, hF⟩ := hv
  have hx := B.exec
  have hb := B.bytes
  have hr := B.returns
  have hts := atoms_spec (ws := wsL_canal) B.pre
  have hown : s.vm.findClass RL = some m.cls := findClass_of_methodNamed B.named
  have hlocks := B.notSynchronized
  have htb := vx_table (x := yL_canal) B (hts _ (List.mem_cons_self))
  subst hsz
  have hD := hD0.self (sz := s.heap.size)
  generalize hAe : va_A (BWW ad b) s.heap.size = A at hD hF ⊢
  have hA : ∀ q : Nat, s.heap.size ≤ q → A q := fun q h => by rw [← hAe]; exact Or.inr h
  obtain ⟨H, hHe⟩ : ∃ H : Heap, H = s.heap := ⟨_, rfl⟩
  have hS : va_S A s.heap H [] := by rw [hHe]; exact va_S.rf
  have hP : va_P D vwCl ([] ++ BWW ad b) H := by rw [hHe]; exact hP
  have hD : va_D A ([] ++ BWW ad b) := hD
  have hK : va_K D vwCl ([] ++ BWT b) s := hK
  rw [← hHe]
  have hl := lv_entry [.ref a0, .int a1, .int a2, .int a3] (n := 5) (Nat.le_of_ble_eq_true rfl)
  rw [lg_entry_eq]
  generalize (lg_sl [.ref a0, .int a1, .int a2, .int a3] ++ List.replicate (5 - (lg_sl [.ref a0, .int a1, .int a2, .int a3]).length) Slot.unset).toArray = ls at hl ⊢
  have hl : lv_has ls 5 [(0, .ref a0), (1, .int a1), (2, .int a2), (3, .int a3)] := hl
  generalize hF9 : F_L_canal M a1 a2 a3 = FF9
  have hM : FF9 = (adc 0 0 (K_L_canal_4 M (FF_X10_canal M a1 a2 a3))) := hF9.symm.trans (adc_0 _).symm
  refine lv_aload_n hx hb dL_canal_0 rfl (lv_at hl 0 rfl) ?_
  refine lv_iload_n hx hb dL_canal_1 rfl (lv_at hl 1 rfl) ?_
  refine lv_iload_n hx hb dL_canal_2 rfl (lv_at hl 2 rfl) ?_
  refine lv_iload_n hx hb dL_canal_3 rfl (lv_at hl 3 rfl) ?_
  have hcon := (b_X10_canal l hl0 D ad H.size b hBL a1 a2 a3 (by rw [hM9]; exact xh_X10_canal hXI (show Bd ≤ 900000 from (by have h9 := (show (Bd + 600) ≤ 900000 from (by have z0 := hBd; omega)); omega)) a1 a2 a3))
  rw [hM9, hb9] at hcon
  generalize hy_1 : (FF_X10_canal M a1 a2 a3) = y4 at hcon hM
  have hM : FF9 = (adc 0 0 (adc y4.2.2.2.2.2.2.2.2.2.2.2.2.2.2.2.2.2.2.2.2.2.2.2.2.2.2.2.2.1 y4.2.2.2.2.2.2.2.2.2.2.2.2.2.2.2.2.2.2.2.2.2.2.2.2.2.2.2.2.2 (if y4.1 = 0 then (y4.2.1, (T_X10_canal M y4), 0, 0) else ((-1001), (TX_X10_canal M y4), 0, 0)))) := hM
  refine kzwb_ [] [] (vx_runV (As := [.int a1, .int a2, .int a3]) (rest := []) ⟨hx, hb, hml, hown, hts⟩ hcon (cwV 3 hts gL_canal_X10_canal rfl rfl rfl (by decide +kernel) ⟨Nat.le_of_ble_eq_true rfl, Nat.le_of_ble_eq_true rfl⟩) ⟨PC_.blind, (by rw [← hb9]; exact bw_recv (X := []) (Y := []) hK hP), lw_pre (X := []) (Y := []) hF hK hP hD hS hA⟩ rfl rfl hl.1 rfl (lv_room (Nat.le_of_ble_eq_true rfl)) dL_canal_4 ⟨(adc_r1 hM), (adc_s1 hM)⟩) hK hP hD hS hA (fun b_1 H locs hpo hP hD hK hS => ?_) (fun E9 ce q9 b_1 H locs hE hP hD hK hS hce hvm hcl => ?_)
  · have hM : FF9 = (adc (0 + y4.2.2.2.2.2.2.2.2.2.2.2.2.2.2.2.2.2.2.2.2.2.2.2.2.2.2.2.2.1) (0 + y4.2.2.2.2.2.2.2.2.2.2.2.2.2.2.2.2.2.2.2.2.2.2.2.2.2.2.2.2.2) (if y4.1 = 0 then (y4.2.1, (T_X10_canal M y4), 0, 0) else ((-1001), (TX_X10_canal M y4), 0, 0))) := hM.trans (adc_adc _ _ _ _ _)
    obtain ⟨hst, hM9_1, hb9_1, hen, hBL_1⟩ := hpo
    rw [if_pos hst] at hM
    have hXI_1 : XI (Bd + 600) (T_X10_canal M y4) := by rw [← hy_1]; exact xt_T_X10_canal hXI (show Bd ≤ 900000 from (by have h9 := (show (Bd + 600) ≤ 900000 from (by have z0 := hBd; omega)); omega)) a1 a2 a3 (by rw [hy_1]; exact hen) (by rw [hy_1, hst]; decide)
    have hM9_1 : b_1.2.2.2 = (T_X10_canal M y4) := hM9_1
    have hP : va_P D vwCl ([] ++ BWW ad b_1) H := hP
    have hD : va_D A ([] ++ BWW ad b_1) := hD
    have hK : va_K D vwCl ([] ++ BWT b_1) s := hK
    refine W.eq (g2 := F0 m 7 ls [.int y4.2.1]) rfl ?_
    refine W.widen (k := (FF9).2.2.1) (n := (FF9).2.2.2) (Nat.le_of_eq (by rw [hM]; first | done | rfl)) (Nat.le_of_eq (by rw [hM]; first | done | rfl)) ?_
    exact W.iret (v := y4.2.1) hx hb hr (lw_ret (X := []) (Y := []) b_1 hP hD hK hS (by rw [hM]; first | done | rfl) ⟨(by rw [hM]; exact hM9_1), hb9_1, hBL_1, (by rw [hM]; exact XI.mono hXI_1 (show (Bd + 600) ≤ Bd + 600 from (by have z0 := hBd; omega)))⟩) hS.2.2 dL_canal_7
  · rcases hE with ⟨rfl, hst, hM9_1, hb9_1, hen, hBL_1⟩
    · have hM : FF9 = (adc (0 + y4.2.2.2.2.2.2.2.2.2.2.2.2.2.2.2.2.2.2.2.2.2.2.2.2.2.2.2.2.1) (0 + y4.2.2.2.2.2.2.2.2.2.2.2.2.2.2.2.2.2.2.2.2.2.2.2.2.2.2.2.2.2) (if y4.1 = 0 then (y4.2.1, (T_X10_canal M y4), 0, 0) else ((-1001), (TX_X10_canal M y4), 0, 0))) := hM.trans (adc_adc _ _ _ _ _)
      rw [if_neg (show ¬ y4.1 = 0 from by rw [hst]; decide)] at hM
      have hXI_1 : XI (Bd + 600) (TX_X10_canal M y4) := by rw [← hy_1]; exact xt_TX_X10_canal hXI (show Bd ≤ 900000 from (by have h9 := (show (Bd + 600) ≤ 900000 from (by have z0 := hBd; omega)); omega)) a1 a2 a3 (by rw [hy_1]; exact hen) (by rw [hy_1, hst])
      have hM9_1 : b_1.2.2.2 = (TX_X10_canal M y4) := hM9_1
      have hP : va_P D vwCl ([] ++ BWW ad b_1) H := hP
      have hD : va_D A ([] ++ BWW ad b_1) := hD
      have hK : va_K D vwCl ([] ++ BWT b_1) s := hK
      refine vx_catch (own := RL) (name := "java/lang/UnsupportedOperationException") (E := "java/lang/UnsupportedOperationException") hown [] (⟨0, 7, 8, 13⟩ : ExceptionTableEntry) [] (htb.trans rfl) (fun z hz => by cases hz) (by decide) (by decide) (hts (.classLink RL 13 "java/lang/UnsupportedOperationException") (List.mem_of_getElem? (i := 1) (by decide +kernel))) (fxk_ hF "java/lang/UnsupportedOperationException" "java/lang/UnsupportedOperationException") hce hvm hcl ?_
      refine W.eq (g2 := F0 m 8 ls [.ref q9]) rfl ?_
      refine lv_astore (lv' := [(4, .ref q9), (0, .ref a0), (1, .int a1), (2, .int a2), (3, .int a3)]) hx hb dL_canal_8 hl (by decide) rfl (fun ls hl => ?_)
      refine lv_sipush (v := (-1001)) hx hb dL_canal_10 (by decide +kernel) ?_
      refine W.widen (k := (FF9).2.2.1) (n := (FF9).2.2.2) (Nat.le_of_eq (by rw [hM]; first | done | rfl)) (Nat.le_of_eq (by rw [hM]; first | done | rfl)) ?_
      exact W.iret (v := (-1001)) hx hb hr (lw_ret (X := []) (Y := []) b_1 hP hD hK hS (by rw [hM]; first | done | rfl) ⟨(by rw [hM]; exact hM9_1), hb9_1, hBL_1, (by rw [hM]; exact XI.mono hXI_1 (show (Bd + 600) ≤ Bd + 600 from (by have z0 := hBd; omega)))⟩) hS.2.2 dL_canal_13
def K_L_close_3 (M : MS) (y3 : Nat × Int32 × Nat × Int32 × (Nat → Int32) × (Nat → Int32) × Nat × (Nat → Int32) × Int32 × Int32 × Int32 × Int32 × Int32 × (Nat → Nat → Int32) × (Nat → Nat → Int32) × (Nat → Nat → Int32) × (Nat → Nat → Int32) × (Nat → Nat) × (Nat → Int32) × (Nat → Int32) × (Nat → Int32) × (Nat → Int32) × (Nat → Int32) × (Nat → Int32) × (Nat → Int32) × Int32 × Int32 × List PG × Nat × Nat) : Int32 × MS × Nat × Nat := (adc y3.2.2.2.2.2.2.2.2.2.2.2.2.2.2.2.2.2.2.2.2.2.2.2.2.2.2.2.2.1 y3.2.2.2.2.2.2.2.2.2.2.2.2.2.2.2.2.2.2.2.2.2.2.2.2.2.2.2.2.2 (if y3.1 = 0 then (y3.2.1, (T_X10_close M y3), 0, 0) else ((-1001), (TX_X10_close M y3), 0, 0)))
def F_L_close (M : MS) (a1 : Int32) (a2 : Int32) : Int32 × MS × Nat × Nat := (K_L_close_3 M (FF_X10_close M a1 a2))
set_option maxHeartbeats 4000000 in
set_option maxRecDepth 100000 in
theorem bl_L_close (l : Launch) (hl0 : l.stackTraces = false) (D : va_G) (ad : Nat → Nat) (sz : Nat) (b : BX) (hBL : BL_ b) (a0 : Nat) (hb9 : b.1 79 = a0) (M : MS) (hM9 : b.2.2.2 = M) (Bd : Nat) (hXI : XI Bd M) (hBd : Bd + 600 ≤ 900000) (a1 : Int32) (a2 : Int32) : Met l yL_close wsL_close ({ frames := 13, cells := (F_L_close M a1 a2).2.2.1, slots := (F_L_close M a1 a2).2.2.2, locals := 355 }) (PC_ D ad (BWW ad b) (BWT b) sz [.ref a0, .int a1, .int a2]) (QB_ D (fun _ : BX => some (.int (F_L_close M a1 a2).1)) (fun b' => b'.2.2.2 = (F_L_close M a1 a2).2.1 ∧ b'.1 79 = a0 ∧ BL_ b' ∧ XI (Bd + 600) (F_L_close M a1 a2).2.1) (BWW ad) BWT (va_A (BWW ad b) sz)) (F_L_close M a1 a2).2.2.1 (F_L_close M a1 a2).2.2.2 (va_A (BWW ad b) sz) := by
  refine va_MetW (cc := cL_close) (maxL := 4) (ret := (some .int)) (by decide) rfl ?_
  intro p e s m args below meth c s₁ B hml hv
  obtain ⟨rfl, hsz, hP, hK, hD0, hF⟩ := hv
  have hx := B.exec
  have hb := B.bytes
  have hr := B.returns
  have hts := atoms_spec (ws := wsL_close) B.pre
  have hown : s.vm.findClass RL = some m.cls := findClass_of_methodNamed B.named
  have hlocks := B.notSynchronized
  have htb := vx_table (x := yL_close) B (hts _ (List.mem_cons_self))
  subst hsz
  have hD := hD0.self (sz := s.heap.size)
  generalize hAe : va_A (BWW ad b) s.heap.size = A at hD hF ⊢
  have hA : ∀ q : Nat, s.heap.size ≤ q → A q := fun q h => by rw [← hAe]; exact Or.inr h
  obtain ⟨H, hHe⟩ : ∃ H : Heap, H = s.heap := ⟨_, rfl⟩
  have hS : va_S A s.heap H [] := by rw [hHe]; exact va_S.rf
  have hP : va_P D vwCl ([] ++ BWW ad b) H := by rw [hHe]; exact hP
  have hD : va_D A ([] ++ BWW ad b) := hD
  have hK : va_K D vwCl ([] ++ BWT b) s := hK
  rw [← hHe]
  have hl := lv_entry [.ref a0, .int a1, .int a2] (n := 4) (Nat.le_of_ble_eq_true rfl)
  rw [lg_entry_eq]
  generalize (lg_sl [.ref a0, .int a1, .int a2] ++ List.replicate (4 - (lg_sl [.ref a0, .int a1, .int a2]).length) Slot.unset).toArray = ls at hl ⊢
  have hl : lv_has ls 4 [(0, .ref a0), (1, .int a1), (2, .int a2)] := hl
  generalize hF9 : F_L_close M a1 a2 = FF9
  have hM : FF9 = (adc 0 0 (K_L_close_3 M (FF_X10_close M a1 a2))) := hF9.symm.trans (adc_0 _).symm
  refine lv_aload_n hx hb dL_close_0 rfl (lv_at hl 0 rfl) ?_
  refine lv_iload_n hx hb dL_close_1 rfl (lv_at hl 1 rfl) ?_
  refine lv_iload_n hx hb dL_close_2 rfl (lv_at hl 2 rfl) ?_
  have hcon := (b_X10_close l hl0 D ad H.size b hBL a1 a2 (by rw [hM9]; exact xh_X10_close hXI (show Bd ≤ 900000 from (by have h9 := (show (Bd + 600) ≤ 900000 from (by have z0 := hBd; omega)); omega)) a1 a2))
  rw [hM9, hb9] at hcon
  generalize hy_1 : (FF_X10_close M a1 a2) = y3 at hcon hM
  have hM : FF9 = (adc 0 0 (adc y3.2.2.2.2.2.2.2.2.2.2.2.2.2.2.2.2.2.2.2.2.2.2.2.2.2.2.2.2.1 y3.2.2.2.2.2.2.2.2.2.2.2.2.2.2.2.2.2.2.2.2.2.2.2.2.2.2.2.2.2 (if y3.1 = 0 then (y3.2.1, (T_X10_close M y3), 0, 0) else ((-1001), (TX_X10_close M y3), 0, 0)))) := hM
  refine kzwb_ [] [] (vx_runV (As := [.int a1, .int a2]) (rest := []) ⟨hx, hb, hml, hown, hts⟩ hcon (cwV 2 hts gL_close_X10_close rfl rfl rfl (by decide +kernel) ⟨Nat.le_of_ble_eq_true rfl, Nat.le_of_ble_eq_true rfl⟩) ⟨PC_.blind, (by rw [← hb9]; exact bw_recv (X := []) (Y := []) hK hP), lw_pre (X := []) (Y := []) hF hK hP hD hS hA⟩ rfl rfl hl.1 rfl (lv_room (Nat.le_of_ble_eq_true rfl)) dL_close_3 ⟨(adc_r1 hM), (adc_s1 hM)⟩) hK hP hD hS hA (fun b_1 H locs hpo hP hD hK hS => ?_) (fun E9 ce q9 b_1 H locs hE hP hD hK hS hce hvm hcl => ?_)
  · have hM : FF9 = (adc (0 + y3.2.2.2.2.2.2.2.2.2.2.2.2.2.2.2.2.2.2.2.2.2.2.2.2.2.2.2.2.1) (0 + y3.2.2.2.2.2.2.2.2.2.2.2.2.2.2.2.2.2.2.2.2.2.2.2.2.2.2.2.2.2) (if y3.1 = 0 then (y3.2.1, (T_X10_close M y3), 0, 0) else ((-1001), (TX_X10_close M y3), 0, 0))) := hM.trans (adc_adc _ _ _ _ _)
    obtain ⟨hst, hM9_1, hb9_1, hen, hBL_1⟩ := hpo
    rw [if_pos hst] at hM
    have hXI_1 : XI (Bd + 600) (T_X10_close M y3) := by rw [← hy_1]; exact xt_T_X10_close hXI (show Bd ≤ 900000 from (by have h9 := (show (Bd + 600) ≤ 900000 from (by have z0 := hBd; omega)); omega)) a1 a2 (by rw [hy_1]; exact hen) (by rw [hy_1, hst]; decide)
    have hM9_1 : b_1.2.2.2 = (T_X10_close M y3) := hM9_1
    have hP : va_P D vwCl ([] ++ BWW ad b_1) H := hP
    have hD : va_D A ([] ++ BWW ad b_1) := hD
    have hK : va_K D vwCl ([] ++ BWT b_1) s := hK
    refine W.eq (g2 := F0 m 6 ls [.int y3.2.1]) rfl ?_
    refine W.widen (k := (FF9).2.2.1) (n := (FF9).2.2.2) (Nat.le_of_eq (by rw [hM]; first | done | rfl)) (Nat.le_of_eq (by rw [hM]; first | done | rfl)) ?_
    exact W.iret (v := y3.2.1) hx hb hr (lw_ret (X := []) (Y := []) b_1 hP hD hK hS (by rw [hM]; first | done | rfl) ⟨(by rw [hM]; exact hM9_1), hb9_1, hBL_1, (by rw [hM]; exact XI.mono hXI_1 (show (Bd + 600) ≤ Bd + 600 from (by have z0 := hBd; omega)))⟩) hS.2.2 dL_close_6
  · rcases hE with ⟨rfl, hst, hM9_1, hb9_1, hen, hBL_1⟩
    · have hM : FF9 = (adc (0 + y3.2.2.2.2.2.2.2.2.2.2.2.2.2.2.2.2.2.2.2.2.2.2.2.2.2.2.2.2.1) (0 + y3.2.2.2.2.2.2.2.2.2.2.2.2.2.2.2.2.2.2.2.2.2.2.2.2.2.2.2.2.2) (if y3.1 = 0 then (y3.2.1, (T_X10_close M y3), 0, 0) else ((-1001), (TX_X10_close M y3), 0, 0))) := hM.trans (adc_adc _ _ _ _ _)
      rw [if_neg (show ¬ y3.1 = 0 from by rw [hst]; decide)] at hM
      have hXI_1 : XI (Bd + 600) (TX_X10_close M y3) := by rw [← hy_1]; exact xt_TX_X10_close hXI (show Bd ≤ 900000 from (by have h9 := (show (Bd + 600) ≤ 900000 from (by have z0 := hBd; omega)); omega)) a1 a2 (by rw [hy_1]; exact hen) (by rw [hy_1, hst])
      have hM9_1 : b_1.2.2.2 = (TX_X10_close M y3) := hM9_1
      have hP : va_P D vwCl ([] ++ BWW ad b_1) H := hP
      have hD : va_D A ([] ++ BWW ad b_1) := hD
      have hK : va_K D vwCl ([] ++ BWT b_1) s := hK
      refine vx_catch (own := RL) (name := "java/lang/UnsupportedOperationException") (E := "java/lang/UnsupportedOperationException") hown [] (⟨0, 6, 7, 13⟩ : ExceptionTableEntry) [] (htb.trans rfl) (fun z hz => by cases hz) (by decide) (by decide) (hts (.classLink RL 13 "java/lang/UnsupportedOperationException") (List.mem_of_getElem? (i := 1) (by decide +kernel))) (fxk_ hF "java/lang/UnsupportedOperationException" "java/lang/UnsupportedOperationException") hce hvm hcl ?_
      refine W.eq (g2 := F0 m 7 ls [.ref q9]) rfl ?_
      refine lv_astore_n (lv' := [(3, .ref q9), (0, .ref a0), (1, .int a1), (2, .int a2)]) hx hb dL_close_7 rfl hl (by decide) rfl (fun ls hl => ?_)
      refine lv_sipush (v := (-1001)) hx hb dL_close_8 (by decide +kernel) ?_
      refine W.widen (k := (FF9).2.2.1) (n := (FF9).2.2.2) (Nat.le_of_eq (by rw [hM]; first | done | rfl)) (Nat.le_of_eq (by rw [hM]; first | done | rfl)) ?_
      exact W.iret (v := (-1001)) hx hb hr (lw_ret (X := []) (Y := []) b_1 hP hD hK hS (by rw [hM]; first | done | rfl) ⟨(by rw [hM]; exact hM9_1), hb9_1, hBL_1, (by rw [hM]; exact XI.mono hXI_1 (show (Bd + 600) ≤ Bd + 600 from (by have z0 := hBd; omega)))⟩) hS.2.2 dL_close_11
def K_L_district_3 (M : MS) (y3 : Nat × Int32 × Nat × Int32 × (Nat → Int32) × (Nat → Int32) × Nat × (Nat → Int32) × Int32 × Int32 × Int32 × Int32 × Int32 × Int32 × (Nat → Nat → Int32) × (Nat → Nat → Int32) × (Nat → Nat → Int32) × (Nat → Nat → Int32) × (Nat → Nat) × (Nat → Int32) × (Nat → Int32) × (Nat → Int32) × (Nat → Int32) × (Nat → Int32) × (Nat → Int32) × (Nat → Int32) × Int32 × Int32 × List PG × Nat × Nat) : Int32 × MS × Nat × Nat := (adc y3.2.2.2.2.2.2.2.2.2.2.2.2.2.2.2.2.2.2.2.2.2.2.2.2.2.2.2.2.2.1 y3.2.2.2.2.2.2.2.2.2.2.2.2.2.2.2.2.2.2.2.2.2.2.2.2.2.2.2.2.2.2 (if y3.1 = 0 then (y3.2.1, (T_X10_district M y3), 0, 0) else ((-1001), (TX_X10_district M y3), 0, 0)))
def F_L_district (M : MS) (a1 : Int32) (a2 : Int32) : Int32 × MS × Nat × Nat := (K_L_district_3 M (FF_X10_district M a1 a2))
set_option maxHeartbeats 4000000 in
set_option maxRecDepth 100000 in
theorem bl_L_district (l : Launch) (hl0 : l.stackTraces = false) (D : va_G) (ad : Nat → Nat) (sz : Nat) (b : BX) (hBL : BL_ b) (a0 : Nat) (hb9 : b.1 79 = a0) (M : MS) (hM9 : b.2.2.2 = M) (Bd : Nat) (hXI : XI Bd M) (hBd : Bd + 600 ≤ 900000) (a1 : Int32) (a2 : Int32) : Met l yL_district wsL_district ({ frames := 13, cells := (F_L_district M a1 a2).2.2.1, slots := (F_L_district M a1 a2).2.2.2, locals := 355 }) (PC_ D ad (BWW ad b) (BWT b) sz [.ref a0, .int a1, .int a2]) (QB_ D (fun _ : BX => some (.int (F_L_district M a1 a2).1)) (fun b' => b'.2.2.2 = (F_L_district M a1 a2).2.1 ∧ b'.1 79 = a0 ∧ BL_ b' ∧ XI (Bd + 600) (F_L_district M a1 a2).2.1) (BWW ad) BWT (va_A (BWW ad b) sz)) (F_L_district M a1 a2).2.2.1 (F_L_district M a1 a2).2.2.2 (va_A (BWW ad b) sz) := by
  refine va_MetW (cc := cL_district) (maxL := 4) (ret := (some .int)) (by decide) rfl ?_
  intro p e s m args below meth c s₁ B hml hv
  obtain ⟨rfl, hsz, hP, hK, hD0, hF⟩ := hv
  have hx := B.exec
  have hb := B.bytes
  have hr := B.returns
  have hts := atoms_spec (ws := wsL_district) B.pre
  have hown : s.vm.findClass RL = some m.cls := findClass_of_methodNamed B.named
  have hlocks := B.notSynchronized
  have htb := vx_table (x := yL_district) B (hts _ (List.mem_cons_self))
  subst hsz
  have hD := hD0.self (sz := s.heap.size)
  generalize hAe : va_A (BWW ad b) s.heap.size = A at hD hF ⊢
  have hA : ∀ q : Nat, s.heap.size ≤ q → A q := fun q h => by rw [← hAe]; exact Or.inr h
  obtain ⟨H, hHe⟩ : ∃ H : Heap, H = s.heap := ⟨_, rfl⟩
  have hS : va_S A s.heap H [] := by rw [hHe]; exact va_S.rf
  have hP : va_P D vwCl ([] ++ BWW ad b) H := by rw [hHe]; exact hP
  have hD : va_D A ([] ++ BWW ad b) := hD
  have hK : va_K D vwCl ([] ++ BWT b) s := hK
  rw [← hHe]
  have hl := lv_entry [.ref a0, .int a1, .int a2] (n := 4) (Nat.le_of_ble_eq_true rfl)
  rw [lg_entry_eq]
  generalize (lg_sl [.ref a0, .int a1, .int a2] ++ List.replicate (4 - (lg_sl [.ref a0, .int a1, .int a2]).length) Slot.unset).toArray = ls at hl ⊢
  have hl : lv_has ls 4 [(0, .ref a0), (1, .int a1), (2, .int a2)] := hl
  generalize hF9 : F_L_district M a1 a2 = FF9
  have hM : FF9 = (adc 0 0 (K_L_district_3 M (FF_X10_district M a1 a2))) := hF9.symm.trans (adc_0 _).symm
  refine lv_aload_n hx hb dL_district_0 rfl (lv_at hl 0 rfl) ?_
  refine lv_iload_n hx hb dL_district_1 rfl (lv_at hl 1 rfl) ?_
  refine lv_iload_n hx hb dL_district_2 rfl (lv_at hl 2 rfl) ?_
  have hcon := (b_X10_district l hl0 D ad H.size b hBL a1 a2 (by rw [hM9]; exact xh_X10_district hXI (show Bd ≤ 900000 from (by have h9 := (show (Bd + 600) ≤ 900000 from (by have z0 := hBd; omega)); omega)) a1 a2))
  rw [hM9, hb9] at hcon
  generalize hy_1 : (FF_X10_district M a1 a2) = y3 at hcon hM
  have hM : FF9 = (adc 0 0 (adc y3.2.2.2.2.2.2.2.2.2.2.2.2.2.2.2.2.2.2.2.2.2.2.2.2.2.2.2.2.2.1 y3.2.2.2.2.2.2.2.2.2.2.2.2.2.2.2.2.2.2.2.2.2.2.2.2.2.2.2.2.2.2 (if y3.1 = 0 then (y3.2.1, (T_X10_district M y3), 0, 0) else ((-1001), (TX_X10_district M y3), 0, 0)))) := hM
  refine kzwb_ [] [] (vx_runV (As := [.int a1, .int a2]) (rest := []) ⟨hx, hb, hml, hown, hts⟩ hcon (cwV 2 hts gL_district_X10_district rfl rfl rfl (by decide +kernel) ⟨Nat.le_of_ble_eq_true rfl, Nat.le_of_ble_eq_true rfl⟩) ⟨PC_.blind, (by rw [← hb9]; exact bw_recv (X := []) (Y := []) hK hP), lw_pre (X := []) (Y := []) hF hK hP hD hS hA⟩ rfl rfl hl.1 rfl (lv_room (Nat.le_of_ble_eq_true rfl)) dL_district_3 ⟨(adc_r1 hM), (adc_s1 hM)⟩) hK hP hD hS hA (fun b_1 H locs hpo hP hD hK hS => ?_) (fun E9 ce q9 b_1 H locs hE hP hD hK hS hce hvm hcl => ?_)
  · have hM : FF9 = (adc (0 + y3.2.2.2.2.2.2.2.2.2.2.2.2.2.2.2.2.2.2.2.2.2.2.2.2.2.2.2.2.2.1) (0 + y3.2.2.2.2.2.2.2.2.2.2.2.2.2.2.2.2.2.2.2.2.2.2.2.2.2.2.2.2.2.2) (if y3.1 = 0 then (y3.2.1, (T_X10_district M y3), 0, 0) else ((-1001), (TX_X10_district M y3), 0, 0))) := hM.trans (adc_adc _ _ _ _ _)
    obtain ⟨hst, hM9_1, hb9_1, hen, hBL_1⟩ := hpo
    rw [if_pos hst] at hM
    have hXI_1 : XI (Bd + 600) (T_X10_district M y3) := by rw [← hy_1]; exact xt_T_X10_district hXI (show Bd ≤ 900000 from (by have h9 := (show (Bd + 600) ≤ 900000 from (by have z0 := hBd; omega)); omega)) a1 a2 (by rw [hy_1]; exact hen) (by rw [hy_1, hst]; decide)
    have hM9_1 : b_1.2.2.2 = (T_X10_district M y3) := hM9_1
    have hP : va_P D vwCl ([] ++ BWW ad b_1) H := hP
    have hD : va_D A ([] ++ BWW ad b_1) := hD
    have hK : va_K D vwCl ([] ++ BWT b_1) s := hK
    refine W.eq (g2 := F0 m 6 ls [.int y3.2.1]) rfl ?_
    refine W.widen (k := (FF9).2.2.1) (n := (FF9).2.2.2) (Nat.le_of_eq (by rw [hM]; first | done | rfl)) (Nat.le_of_eq (by rw [hM]; first | done | rfl)) ?_
    exact W.iret (v := y3.2.1) hx hb hr (lw_ret (X := []) (Y := []) b_1 hP hD hK hS (by rw [hM]; first | done | rfl) ⟨(by rw [hM]; exact hM9_1), hb9_1, hBL_1, (by rw [hM]; exact XI.mono hXI_1 (show (Bd + 600) ≤ Bd + 600 from (by have z0 := hBd; omega)))⟩) hS.2.2 dL_district_6
  · rcases hE with ⟨rfl, hst, hM9_1, hb9_1, hen, hBL_1⟩
    · have hM : FF9 = (adc (0 + y3.2.2.2.2.2.2.2.2.2.2.2.2.2.2.2.2.2.2.2.2.2.2.2.2.2.2.2.2.2.1) (0 + y3.2.2.2.2.2.2.2.2.2.2.2.2.2.2.2.2.2.2.2.2.2.2.2.2.2.2.2.2.2.2) (if y3.1 = 0 then (y3.2.1, (T_X10_district M y3), 0, 0) else ((-1001), (TX_X10_district M y3), 0, 0))) := hM.trans (adc_adc _ _ _ _ _)
      rw [if_neg (show ¬ y3.1 = 0 from by rw [hst]; decide)] at hM
      have hXI_1 : XI (Bd + 600) (TX_X10_district M y3) := by rw [← hy_1]; exact xt_TX_X10_district hXI (show Bd ≤ 900000 from (by have h9 := (show (Bd + 600) ≤ 900000 from (by have z0 := hBd; omega)); omega)) a1 a2 (by rw [hy_1]; exact hen) (by rw [hy_1, hst])
      have hM9_1 : b_1.2.2.2 = (TX_X10_district M y3) := hM9_1
      have hP : va_P D vwCl ([] ++ BWW ad b_1) H := hP
      have hD : va_D A ([] ++ BWW ad b_1) := hD
      have hK : va_K D vwCl ([] ++ BWT b_1) s := hK
      refine vx_catch (own := RL) (name := "java/lang/UnsupportedOperationException") (E := "java/lang/UnsupportedOperationException") hown [] (⟨0, 6, 7, 13⟩ : ExceptionTableEntry) [] (htb.trans rfl) (fun z hz => by cases hz) (by decide) (by decide) (hts (.classLink RL 13 "java/lang/UnsupportedOperationException") (List.mem_of_getElem? (i := 1) (by decide +kernel))) (fxk_ hF "java/lang/UnsupportedOperationException" "java/lang/UnsupportedOperationException") hce hvm hcl ?_
      refine W.eq (g2 := F0 m 7 ls [.ref q9]) rfl ?_
      refine lv_astore_n (lv' := [(3, .ref q9), (0, .ref a0), (1, .int a1), (2, .int a2)]) hx hb dL_district_7 rfl hl (by decide) rfl (fun ls hl => ?_)
      refine lv_sipush (v := (-1001)) hx hb dL_district_8 (by decide +kernel) ?_
      refine W.widen (k := (FF9).2.2.1) (n := (FF9).2.2.2) (Nat.le_of_eq (by rw [hM]; first | done | rfl)) (Nat.le_of_eq (by rw [hM]; first | done | rfl)) ?_
      exact W.iret (v := (-1001)) hx hb hr (lw_ret (X := []) (Y := []) b_1 hP hD hK hS (by rw [hM]; first | done | rfl) ⟨(by rw [hM]; exact hM9_1), hb9_1, hBL_1, (by rw [hM]; exact XI.mono hXI_1 (show (Bd + 600) ≤ Bd + 600 from (by have z0 := hBd; omega)))⟩) hS.2.2 dL_district_11
def K_L_lose_1 (M : MS) (y1 : Nat × Int32 × (Nat → Int32) × Int32 × Int32 × Int32 × Int32 × (Nat → Nat → Int32) × (Nat → Nat → Int32) × (Nat → Nat → Int32) × (Nat → Nat → Int32) × (Nat → Nat) × (Nat → Int32) × (Nat → Int32) × (Nat → Int32) × (Nat → Int32) × (Nat → Int32) × (Nat → Int32) × (Nat → Int32) × Int32 × Int32 × Nat × Nat) : Int32 × MS × Nat × Nat := (adc y1.2.2.2.2.2.2.2.2.2.2.2.2.2.2.2.2.2.2.2.2.2.1 y1.2.2.2.2.2.2.2.2.2.2.2.2.2.2.2.2.2.2.2.2.2.2 (if y1.1 = 0 then (y1.2.1, (T_X10_lose M y1), 0, 0) else ((-1001), (TX_X10_lose M y1), 0, 0)))
def F_L_lose (M : MS) : Int32 × MS × Nat × Nat := (K_L_lose_1 M (FF_X10_lose M))
set_option maxHeartbeats 4000000 in
set_option maxRecDepth 100000 in
theorem bl_L_lose (l : Launch) (hl0 : l.stackTraces = false) (D : va_G) (ad : Nat → Nat) (sz : Nat) (b : BX) (hBL : BL_ b) (a0 : Nat) (hb9 : b.1 79 = a0) (M : MS) (hM9 : b.2.2.2 = M) (Bd : Nat) (hXI : XI Bd M) (hBd : Bd + 0 ≤ 900000) : Met l yL_lose wsL_lose ({ frames := 9, cells := (F_L_lose M).2.2.1, slots := (F_L_lose M).2.2.2, locals := 214 }) (PC_ D ad (BWW ad b) (BWT b) sz [.ref a0]) (QB_ D (fun _ : BX => some (.int (F_L_lose M).1)) (fun b' => b'.2.2.2 = (F_L_lose M).2.1 ∧ b'.1 79 = a0 ∧ BL_ b' ∧ XI (Bd + 0) (F_L_lose M).2.1) (BWW ad) BWT (va_A (BWW ad b) sz)) (F_L_lose M).2.2.1 (F_L_lose M).2.2.2 (va_A (BWW ad b) sz) := by
  refine va_MetW (cc := cL_lose) (maxL := 2) (ret := (some .int)) (by decide) rfl ?_
  intro p e s m args below meth c s₁ B hml hv
  obtain ⟨rfl, hsz, hP, hK, hD0, hF⟩ := hv
  have hx := B.exec
  have hb := B.bytes
  have hr := B.returns
  have hts := atoms_spec (ws := wsL_lose) B.pre
  have hown : s.vm.findClass RL = some m.cls := findClass_of_methodNamed B.named
  have hlocks := B.notSynchronized
  have htb := vx_table (x := yL_lose) B (hts _ (List.mem_cons_self))
  subst hsz
  have hD := hD0.self (sz := s.heap.size)
  generalize hAe : va_A (BWW ad b) s.heap.size = A at hD hF ⊢
  have hA : ∀ q : Nat, s.heap.size ≤ q → A q := fun q h => by rw [← hAe]; exact Or.inr h
  obtain ⟨H, hHe⟩ : ∃ H : Heap, H = s.heap := ⟨_, rfl⟩
  have hS : va_S A s.heap H [] := by rw [hHe]; exact va_S.rf
  have hP : va_P D vwCl ([] ++ BWW ad b) H := by rw [hHe]; exact hP
  have hD : va_D A ([] ++ BWW ad b) := hD
  have hK : va_K D vwCl ([] ++ BWT b) s := hK
  rw [← hHe]
  have hl := lv_entry [.ref a0] (n := 2) (Nat.le_of_ble_eq_true rfl)
  rw [lg_entry_eq]
  generalize (lg_sl [.ref a0] ++ List.replicate (2 - (lg_sl [.ref a0]).length) Slot.unset).toArray = ls at hl ⊢
  have hl : lv_has ls 2 [(0, .ref a0)] := hl
  generalize hF9 : F_L_lose M = FF9
  have hM : FF9 = (adc 0 0 (K_L_lose_1 M (FF_X10_lose M))) := hF9.symm.trans (adc_0 _).symm
  refine lv_aload_n hx hb dL_lose_0 rfl (lv_at hl 0 rfl) ?_
  have hcon := (b_X10_lose l hl0 D ad H.size b hBL (by rw [hM9]; exact xh_X10_lose hXI (show Bd ≤ 900000 from (by have h9 := (show Bd ≤ 900000 from (by have z0 := hBd; omega)); omega))))
  rw [hM9, hb9] at hcon
  generalize hy_1 : (FF_X10_lose M) = y1 at hcon hM
  have hM : FF9 = (adc 0 0 (adc y1.2.2.2.2.2.2.2.2.2.2.2.2.2.2.2.2.2.2.2.2.2.1 y1.2.2.2.2.2.2.2.2.2.2.2.2.2.2.2.2.2.2.2.2.2.2 (if y1.1 = 0 then (y1.2.1, (T_X10_lose M y1), 0, 0) else ((-1001), (TX_X10_lose M y1), 0, 0)))) := hM
  refine kzwb_ [] [] (vx_runV (As := []) (rest := []) ⟨hx, hb, hml, hown, hts⟩ hcon (cwV 0 hts gL_lose_X10_lose rfl rfl rfl (by decide +kernel) ⟨Nat.le_of_ble_eq_true rfl, Nat.le_of_ble_eq_true rfl⟩) ⟨PC_.blind, (by rw [← hb9]; exact bw_recv (X := []) (Y := []) hK hP), lw_pre (X := []) (Y := []) hF hK hP hD hS hA⟩ rfl rfl hl.1 rfl (lv_room (Nat.le_of_ble_eq_true rfl)) dL_lose_1 ⟨(adc_r1 hM), (adc_s1 hM)⟩) hK hP hD hS hA (fun b_1 H locs hpo hP hD hK hS => ?_) (fun E9 ce q9 b_1 H locs hE hP hD hK hS hce hvm hcl => ?_)
  · have hM : FF9 = (adc (0 + y1.2.2.2.2.2.2.2.2.2.2.2.2.2.2.2.2.2.2.2.2.2.1) (0 + y1.2.2.2.2.2.2.2.2.2.2.2.2.2.2.2.2.2.2.2.2.2.2) (if y1.1 = 0 then (y1.2.1, (T_X10_lose M y1), 0, 0) else ((-1001), (TX_X10_lose M y1), 0, 0))) := hM.trans (adc_adc _ _ _ _ _)
    obtain ⟨hst, hM9_1, hb9_1, hen, hBL_1⟩ := hpo
    rw [if_pos hst] at hM
    have hXI_1 : XI Bd (T_X10_lose M y1) := by rw [← hy_1]; exact xt_T_X10_lose hXI (show Bd ≤ 900000 from (by have h9 := (show Bd ≤ 900000 from (by have z0 := hBd; omega)); omega)) (by rw [hy_1]; exact hen) (by rw [hy_1, hst]; decide)
    have hM9_1 : b_1.2.2.2 = (T_X10_lose M y1) := hM9_1
    have hP : va_P D vwCl ([] ++ BWW ad b_1) H := hP
    have hD : va_D A ([] ++ BWW ad b_1) := hD
    have hK : va_K D vwCl ([] ++ BWT b_1) s := hK
    refine W.eq (g2 := F0 m 4 ls [.int y1.2.1]) rfl ?_
    refine W.widen (k := (FF9).2.2.1) (n := (FF9).2.2.2) (Nat.le_of_eq (by rw [hM]; first | done | rfl)) (Nat.le_of_eq (by rw [hM]; first | done | rfl)) ?_
    exact W.iret (v := y1.2.1) hx hb hr (lw_ret (X := []) (Y := []) b_1 hP hD hK hS (by rw [hM]; first | done | rfl) ⟨(by rw [hM]; exact hM9_1), hb9_1, hBL_1, (by rw [hM]; exact XI.mono hXI_1 (show Bd ≤ Bd + 0 from (by have z0 := hBd; omega)))⟩) hS.2.2 dL_lose_4
  · rcases hE with ⟨rfl, hst, hM9_1, hb9_1, hen, hBL_1⟩
    · have hM : FF9 = (adc (0 + y1.2.2.2.2.2.2.2.2.2.2.2.2.2.2.2.2.2.2.2.2.2.1) (0 + y1.2.2.2.2.2.2.2.2.2.2.2.2.2.2.2.2.2.2.2.2.2.2) (if y1.1 = 0 then (y1.2.1, (T_X10_lose M y1), 0, 0) else ((-1001), (TX_X10_lose M y1), 0, 0))) := hM.trans (adc_adc _ _ _ _ _)
      rw [if_neg (show ¬ y1.1 = 0 from by rw [hst]; decide)] at hM
      have hXI_1 : XI Bd (TX_X10_lose M y1) := by rw [← hy_1]; exact xt_TX_X10_lose hXI (show Bd ≤ 900000 from (by have h9 := (show Bd ≤ 900000 from (by have z0 := hBd; omega)); omega)) (by rw [hy_1]; exact hen) (by rw [hy_1, hst])
      have hM9_1 : b_1.2.2.2 = (TX_X10_lose M y1) := hM9_1
      have hP : va_P D vwCl ([] ++ BWW ad b_1) H := hP
      have hD : va_D A ([] ++ BWW ad b_1) := hD
      have hK : va_K D vwCl ([] ++ BWT b_1) s := hK
      refine vx_catch (own := RL) (name := "java/lang/UnsupportedOperationException") (E := "java/lang/UnsupportedOperationException") hown [] (⟨0, 4, 5, 13⟩ : ExceptionTableEntry) [] (htb.trans rfl) (fun z hz => by cases hz) (by decide) (by decide) (hts (.classLink RL 13 "java/lang/UnsupportedOperationException") (List.mem_of_getElem? (i := 1) (by decide +kernel))) (fxk_ hF "java/lang/UnsupportedOperationException" "java/lang/UnsupportedOperationException") hce hvm hcl ?_
      refine W.eq (g2 := F0 m 5 ls [.ref q9]) rfl ?_
      refine lv_astore_n (lv' := [(1, .ref q9), (0, .ref a0)]) hx hb dL_lose_5 rfl hl (by decide) rfl (fun ls hl => ?_)
      refine lv_sipush (v := (-1001)) hx hb dL_lose_6 (by decide +kernel) ?_
      refine W.widen (k := (FF9).2.2.1) (n := (FF9).2.2.2) (Nat.le_of_eq (by rw [hM]; first | done | rfl)) (Nat.le_of_eq (by rw [hM]; first | done | rfl)) ?_
      exact W.iret (v := (-1001)) hx hb hr (lw_ret (X := []) (Y := []) b_1 hP hD hK hS (by rw [hM]; first | done | rfl) ⟨(by rw [hM]; exact hM9_1), hb9_1, hBL_1, (by rw [hM]; exact XI.mono hXI_1 (show Bd ≤ Bd + 0 from (by have z0 := hBd; omega)))⟩) hS.2.2 dL_lose_9
def K_L_pass_2 (M : MS) (y2 : Nat × Int32 × Nat × Int32 × (Nat → Int32) × Nat × (Nat → Int32) × Int32 × Int32 × Int32 × Int32 × Int32 × Int32 × Int32 × Int32 × (Nat → Nat → Int32) × (Nat → Nat → Int32) × (Nat → Nat → Int32) × (Nat → Nat → Int32) × (Nat → Nat) × (Nat → Int32) × (Nat → Int32) × (Nat → Int32) × (Nat → Int32) × (Nat → Int32) × (Nat → Int32) × (Nat → Int32) × Int32 × Int32 × List PG × Nat × Nat) : Int32 × MS × Nat × Nat := (adc y2.2.2.2.2.2.2.2.2.2.2.2.2.2.2.2.2.2.2.2.2.2.2.2.2.2.2.2.2.2.2.1 y2.2.2.2.2.2.2.2.2.2.2.2.2.2.2.2.2.2.2.2.2.2.2.2.2.2.2.2.2.2.2.2 (if y2.1 = 0 then (y2.2.1, (T_X10_pass M y2), 0, 0) else ((-1001), (TX_X10_pass M y2), 0, 0)))
def F_L_pass (M : MS) (a1 : Int32) : Int32 × MS × Nat × Nat := (K_L_pass_2 M (FF_X10_pass M a1))
set_option maxHeartbeats 4000000 in
set_option maxRecDepth 100000 in
theorem bl_L_pass (l : Launch) (hl0 : l.stackTraces = false) (D : va_G) (ad : Nat → Nat) (sz : Nat) (b : BX) (hBL : BL_ b) (a0 : Nat) (hb9 : b.1 79 = a0) (M : MS) (hM9 : b.2.2.2 = M) (Bd : Nat) (hXI : XI Bd M) (hBd : Bd + 600 ≤ 900000) (a1 : Int32) : Met l yL_pass wsL_pass ({ frames := 13, cells := (F_L_pass M a1).2.2.1, slots := (F_L_pass M a1).2.2.2, locals := 352 }) (PC_ D ad (BWW ad b) (BWT b) sz [.ref a0, .int a1]) (QB_ D (fun _ : BX => some (.int (F_L_pass M a1).1)) (fun b' => b'.2.2.2 = (F_L_pass M a1).2.1 ∧ b'.1 79 = a0 ∧ BL_ b' ∧ XI (Bd + 600) (F_L_pass M a1).2.1) (BWW ad) BWT (va_A (BWW ad b) sz)) (F_L_pass M a1).2.2.1 (F_L_pass M a1).2.2.2 (va_A (BWW ad b) sz) := by
  refine va_MetW (cc := cL_pass) (maxL := 3) (ret := (some .int)) (by decide) rfl ?_
  intro p e s m args below meth c s₁ B hml hv
  obtain ⟨rfl, hsz, hP, hK, hD0, hF⟩ := hv
  have hx := B.exec
  have hb := B.bytes
  have hr := B.returns
  have hts := atoms_spec (ws := wsL_pass) B.pre
  have hown : s.vm.findClass RL = some m.cls := findClass_of_methodNamed B.named
  have hlocks := B.notSynchronized
  have htb := vx_table (x := yL_pass) B (hts _ (List.mem_cons_self))
  subst hsz
  have hD := hD0.self (sz := s.heap.size)
  generalize hAe : va_A (BWW ad b) s.heap.size = A at hD hF ⊢
  have hA : ∀ q : Nat, s.heap.size ≤ q → A q := fun q h => by rw [← hAe]; exact Or.inr h
  obtain ⟨H, hHe⟩ : ∃ H : Heap, H = s.heap := ⟨_, rfl⟩
  have hS : va_S A s.heap H [] := by rw [hHe]; exact va_S.rf
  have hP : va_P D vwCl ([] ++ BWW ad b) H := by rw [hHe]; exact hP
  have hD : va_D A ([] ++ BWW ad b) := hD
  have hK : va_K D vwCl ([] ++ BWT b) s := hK
  rw [← hHe]
  have hl := lv_entry [.ref a0, .int a1] (n := 3) (Nat.le_of_ble_eq_true rfl)
  rw [lg_entry_eq]
  generalize (lg_sl [.ref a0, .int a1] ++ List.replicate (3 - (lg_sl [.ref a0, .int a1]).length) Slot.unset).toArray = ls at hl ⊢
  have hl : lv_has ls 3 [(0, .ref a0), (1, .int a1)] := hl
  generalize hF9 : F_L_pass M a1 = FF9
  have hM : FF9 = (adc 0 0 (K_L_pass_2 M (FF_X10_pass M a1))) := hF9.symm.trans (adc_0 _).symm
  refine lv_aload_n hx hb dL_pass_0 rfl (lv_at hl 0 rfl) ?_
  refine lv_iload_n hx hb dL_pass_1 rfl (lv_at hl 1 rfl) ?_
  have hcon := (b_X10_pass l hl0 D ad H.size b hBL a1 (by rw [hM9]; exact xh_X10_pass hXI (show Bd ≤ 900000 from (by have h9 := (show (Bd + 600) ≤ 900000 from (by have z0 := hBd; omega)); omega)) a1))
  rw [hM9, hb9] at hcon
  generalize hy_1 : (FF_X10_pass M a1) = y2 at hcon hM
  have hM : FF9 = (adc 0 0 (adc y2.2.2.2.2.2.2.2.2.2.2.2.2.2.2.2.2.2.2.2.2.2.2.2.2.2.2.2.2.2.2.1 y2.2.2.2.2.2.2.2.2.2.2.2.2.2.2.2.2.2.2.2.2.2.2.2.2.2.2.2.2.2.2.2 (if y2.1 = 0 then (y2.2.1, (T_X10_pass M y2), 0, 0) else ((-1001), (TX_X10_pass M y2), 0, 0)))) := hM
  refine kzwb_ [] [] (vx_runV (As := [.int a1]) (rest := []) ⟨hx, hb, hml, hown, hts⟩ hcon (cwV 1 hts gL_pass_X10_pass rfl rfl rfl (by decide +kernel) ⟨Nat.le_of_ble_eq_true rfl, Nat.le_of_ble_eq_true rfl⟩) ⟨PC_.blind, (by rw [← hb9]; exact bw_recv (X := []) (Y := []) hK hP), lw_pre (X := []) (Y := []) hF hK hP hD hS hA⟩ rfl rfl hl.1 rfl (lv_room (Nat.le_of_ble_eq_true rfl)) dL_pass_2 ⟨(adc_r1 hM), (adc_s1 hM)⟩) hK hP hD hS hA (fun b_1 H locs hpo hP hD hK hS => ?_) (fun E9 ce q9 b_1 H locs hE hP hD hK hS hce hvm hcl => ?_)
  · have hM : FF9 = (adc (0 + y2.2.2.2.2.2.2.2.2.2.2.2.2.2.2.2.2.2.2.2.2.2.2.2.2.2.2.2.2.2.2.1) (0 + y2.2.2.2.2.2.2.2.2.2.2.2.2.2.2.2.2.2.2.2.2.2.2.2.2.2.2.2.2.2.2.2) (if y2.1 = 0 then (y2.2.1, (T_X10_pass M y2), 0, 0) else ((-1001), (TX_X10_pass M y2), 0, 0))) := hM.trans (adc_adc _ _ _ _ _)
    obtain ⟨hst, hM9_1, hb9_1, hen, hBL_1⟩ := hpo
    rw [if_pos hst] at hM
    have hXI_1 : XI (Bd + 600) (T_X10_pass M y2) := by rw [← hy_1]; exact xt_T_X10_pass hXI (show Bd ≤ 900000 from (by have h9 := (show (Bd + 600) ≤ 900000 from (by have z0 := hBd; omega)); omega)) a1 (by rw [hy_1]; exact hen) (by rw [hy_1, hst]; decide)
    have hM9_1 : b_1.2.2.2 = (T_X10_pass M y2) := hM9_1
    have hP : va_P D vwCl ([] ++ BWW ad b_1) H := hP
    have hD : va_D A ([] ++ BWW ad b_1) := hD
    have hK : va_K D vwCl ([] ++ BWT b_1) s := hK
    refine W.eq (g2 := F0 m 5 ls [.int y2.2.1]) rfl ?_
    refine W.widen (k := (FF9).2.2.1) (n := (FF9).2.2.2) (Nat.le_of_eq (by rw [hM]; first | done | rfl)) (Nat.le_of_eq (by rw [hM]; first | done | rfl)) ?_
    exact W.iret (v := y2.2.1) hx hb hr (lw_ret (X := []) (Y := []) b_1 hP hD hK hS (by rw [hM]; first | done | rfl) ⟨(by rw [hM]; exact hM9_1), hb9_1, hBL_1, (by rw [hM]; exact XI.mono hXI_1 (show (Bd + 600) ≤ Bd + 600 from (by have z0 := hBd; omega)))⟩) hS.2.2 dL_pass_5
  · rcases hE with ⟨rfl, hst, hM9_1, hb9_1, hen, hBL_1⟩
    · have hM : FF9 = (adc (0 + y2.2.2.2.2.2.2.2.2.2.2.2.2.2.2.2.2.2.2.2.2.2.2.2.2.2.2.2.2.2.2.1) (0 + y2.2.2.2.2.2.2.2.2.2.2.2.2.2.2.2.2.2.2.2.2.2.2.2.2.2.2.2.2.2.2.2) (if y2.1 = 0 then (y2.2.1, (T_X10_pass M y2), 0, 0) else ((-1001), (TX_X10_pass M y2), 0, 0))) := hM.trans (adc_adc _ _ _ _ _)
      rw [if_neg (show ¬ y2.1 = 0 from by rw [hst]; decide)] at hM
      have hXI_1 : XI (Bd + 600) (TX_X10_pass M y2) := by rw [← hy_1]; exact xt_TX_X10_pass hXI (show Bd ≤ 900000 from (by have h9 := (show (Bd + 600) ≤ 900000 from (by have z0 := hBd; omega)); omega)) a1 (by rw [hy_1]; exact hen) (by rw [hy_1, hst])
      have hM9_1 : b_1.2.2.2 = (TX_X10_pass M y2) := hM9_1
      have hP : va_P D vwCl ([] ++ BWW ad b_1) H := hP
      have hD : va_D A ([] ++ BWW ad b_1) := hD
      have hK : va_K D vwCl ([] ++ BWT b_1) s := hK
      refine vx_catch (own := RL) (name := "java/lang/UnsupportedOperationException") (E := "java/lang/UnsupportedOperationException") hown [] (⟨0, 5, 6, 13⟩ : ExceptionTableEntry) [] (htb.trans rfl) (fun z hz => by cases hz) (by decide) (by decide) (hts (.classLink RL 13 "java/lang/UnsupportedOperationException") (List.mem_of_getElem? (i := 1) (by decide +kernel))) (fxk_ hF "java/lang/UnsupportedOperationException" "java/lang/UnsupportedOperationException") hce hvm hcl ?_
      refine W.eq (g2 := F0 m 6 ls [.ref q9]) rfl ?_
      refine lv_astore_n (lv' := [(2, .ref q9), (0, .ref a0), (1, .int a1)]) hx hb dL_pass_6 rfl hl (by decide) rfl (fun ls hl => ?_)
      refine lv_sipush (v := (-1001)) hx hb dL_pass_7 (by decide +kernel) ?_
      refine W.widen (k := (FF9).2.2.1) (n := (FF9).2.2.2) (Nat.le_of_eq (by rw [hM]; first | done | rfl)) (Nat.le_of_eq (by rw [hM]; first | done | rfl)) ?_
      exact W.iret (v := (-1001)) hx hb hr (lw_ret (X := []) (Y := []) b_1 hP hD hK hS (by rw [hM]; first | done | rfl) ⟨(by rw [hM]; exact hM9_1), hb9_1, hBL_1, (by rw [hM]; exact XI.mono hXI_1 (show (Bd + 600) ≤ Bd + 600 from (by have z0 := hBd; omega)))⟩) hS.2.2 dL_pass_10
def K_L_surveyorOf_3 (M : MS) (y3 : Nat × Int32) : Int32 × MS × Nat × Nat := (adc 2 12 (if y3.1 = 0 then (y3.2, M, 0, 0) else (if y3.1 = 2 then ((-1001), M, 0, 0) else ((-1002), M, 0, 0))))
def F_L_surveyorOf (M : MS) (a1 : Int32) (a2 : Int32) : Int32 × MS × Nat × Nat := (K_L_surveyorOf_3 M (FF_X10_surveyorOf M a1 a2))
set_option maxHeartbeats 4000000 in
set_option maxRecDepth 100000 in
theorem bl_L_surveyorOf (l : Launch) (hl0 : l.stackTraces = false) (D : va_G) (ad : Nat → Nat) (sz : Nat) (b : BX) (hBL : BL_ b) (a0 : Nat) (hb9 : b.1 79 = a0) (M : MS) (hM9 : b.2.2.2 = M) (Bd : Nat) (hXI : XI Bd M) (hBd : Bd + 0 ≤ 900000) (a1 : Int32) (a2 : Int32) : Met l yL_surveyorOf wsL_surveyorOf ({ frames := 8, cells := (F_L_surveyorOf M a1 a2).2.2.1, slots := (F_L_surveyorOf M a1 a2).2.2.2, locals := 166 }) (PC_ D ad (BWW ad b) (BWT b) sz [.ref a0, .int a1, .int a2]) (QB_ D (fun _ : BX => some (.int (F_L_surveyorOf M a1 a2).1)) (fun b' => b'.2.2.2 = (F_L_surveyorOf M a1 a2).2.1 ∧ b'.1 79 = a0 ∧ BL_ b' ∧ XI (Bd + 0) (F_L_surveyorOf M a1 a2).2.1) (BWW ad) BWT (va_A (BWW ad b) sz)) (F_L_surveyorOf M a1 a2).2.2.1 (F_L_surveyorOf M a1 a2).2.2.2 (va_A (BWW ad b) sz) := by
  refine va_MetW (cc := cL_surveyorOf) (maxL := 4) (ret := (some .int)) (by decide) rfl ?_
  intro p e s m args below meth c s₁ B hml hv
  obtain ⟨rfl, hsz, hP, hK, hD0, hF⟩ := hv
  have hx := B.exec
  have hb := B.bytes
  have hr := B.returns
  have hts := atoms_spec (ws := wsL_surveyorOf) B.pre
  have hown : s.vm.findClass RL = some m.cls := findClass_of_methodNamed B.named
  have hlocks := B.notSynchronized
  have htb := vx_table (x := yL_surveyorOf) B (hts _ (List.mem_cons_self))
  subst hsz
  have hD := hD0.self (sz := s.heap.size)
  generalize hAe : va_A (BWW ad b) s.heap.size = A at hD hF ⊢
  have hA : ∀ q : Nat, s.heap.size ≤ q → A q := fun q h => by rw [← hAe]; exact Or.inr h
  obtain ⟨H, hHe⟩ : ∃ H : Heap, H = s.heap := ⟨_, rfl⟩
  have hS : va_S A s.heap H [] := by rw [hHe]; exact va_S.rf
  have hP : va_P D vwCl ([] ++ BWW ad b) H := by rw [hHe]; exact hP
  have hD : va_D A ([] ++ BWW ad b) := hD
  have hK : va_K D vwCl ([] ++ BWT b) s := hK
  rw [← hHe]
  have hl := lv_entry [.ref a0, .int a1, .int a2] (n := 4) (Nat.le_of_ble_eq_true rfl)
  rw [lg_entry_eq]
  generalize (lg_sl [.ref a0, .int a1, .int a2] ++ List.replicate (4 - (lg_sl [.ref a0, .int a1, .int a2]).length) Slot.unset).toArray = ls at hl ⊢
  have hl : lv_has ls 4 [(0, .ref a0), (1, .int a1), (2, .int a2)] := hl
  generalize hF9 : F_L_surveyorOf M a1 a2 = FF9
  have hM : FF9 = (adc 0 0 (K_L_surveyorOf_3 M (FF_X10_surveyorOf M a1 a2))) := hF9.symm.trans (adc_0 _).symm
  refine lv_aload_n hx hb dL_surveyorOf_0 rfl (lv_at hl 0 rfl) ?_
  refine lv_iload_n hx hb dL_surveyorOf_1 rfl (lv_at hl 1 rfl) ?_
  refine lv_iload_n hx hb dL_surveyorOf_2 rfl (lv_at hl 2 rfl) ?_
  have hcon := (b_X10_surveyorOf l hl0 D ad H.size b hBL a1 a2 (by rw [hM9]; exact xh_X10_surveyorOf hXI (show Bd ≤ 900000 from (by have h9 := (show Bd ≤ 900000 from (by have z0 := hBd; omega)); omega)) a1 a2))
  rw [hM9, hb9] at hcon
  generalize hy_1 : (FF_X10_surveyorOf M a1 a2) = y3 at hcon hM
  have hM : FF9 = (adc 0 0 (adc 2 12 (if y3.1 = 0 then (y3.2, M, 0, 0) else (if y3.1 = 2 then ((-1001), M, 0, 0) else ((-1002), M, 0, 0))))) := hM
  refine kzwb_ [] [] (vx_runV (As := [.int a1, .int a2]) (rest := []) ⟨hx, hb, hml, hown, hts⟩ hcon (cwV 2 hts gL_surveyorOf_X10_surveyorOf rfl rfl rfl (by decide +kernel) ⟨Nat.le_of_ble_eq_true rfl, Nat.le_of_ble_eq_true rfl⟩) ⟨PC_.blind, (by rw [← hb9]; exact bw_recv (X := []) (Y := []) hK hP), lw_pre (X := []) (Y := []) hF hK hP hD hS hA⟩ rfl rfl hl.1 rfl (lv_room (Nat.le_of_ble_eq_true rfl)) dL_surveyorOf_3 ⟨(adc_r1 hM), (adc_s1 hM)⟩) hK hP hD hS hA (fun b_1 H locs hpo hP hD hK hS => ?_) (fun E9 ce q9 b_1 H locs hE hP hD hK hS hce hvm hcl => ?_)
  · have hM : FF9 = (adc (0 + 2) (0 + 12) (if y3.1 = 0 then (y3.2, M, 0, 0) else (if y3.1 = 2 then ((-1001), M, 0, 0) else ((-1002), M, 0, 0)))) := hM.trans (adc_adc _ _ _ _ _)
    obtain ⟨hst, hM9_1, hb9_1, hBL_1⟩ := hpo
    rw [if_pos hst] at hM
    have hXI_1 := hXI
    have hM9_1 : b_1.2.2.2 = M := hM9_1
    have hP : va_P D vwCl ([] ++ BWW ad b_1) H := hP
    have hD : va_D A ([] ++ BWW ad b_1) := hD
    have hK : va_K D vwCl ([] ++ BWT b_1) s := hK
    refine W.eq (g2 := F0 m 6 ls [.int y3.2]) rfl ?_
    refine W.widen (k := (FF9).2.2.1) (n := (FF9).2.2.2) (Nat.le_of_eq (by rw [hM]; first | done | rfl)) (Nat.le_of_eq (by rw [hM]; first | done | rfl)) ?_
    exact W.iret (v := y3.2) hx hb hr (lw_ret (X := []) (Y := []) b_1 hP hD hK hS (by rw [hM]; first | done | rfl) ⟨(by rw [hM]; exact hM9_1), hb9_1, hBL_1, (by rw [hM]; exact XI.mono hXI_1 (show Bd ≤ Bd + 0 from (by have z0 := hBd; omega)))⟩) hS.2.2 dL_surveyorOf_6
  · rcases hE with ⟨rfl, hst, hM9_1, hb9_1, hBL_1⟩ | ⟨rfl, hst, hM9_1, hb9_1, hBL_1⟩
    · have hM : FF9 = (adc (0 + 2) (0 + 12) (if y3.1 = 0 then (y3.2, M, 0, 0) else (if y3.1 = 2 then ((-1001), M, 0, 0) else ((-1002), M, 0, 0)))) := hM.trans (adc_adc _ _ _ _ _)
      rw [if_neg (show ¬ y3.1 = 0 from by rw [hst]; decide)] at hM
      rw [if_pos hst] at hM
      have hXI_1 := hXI
      have hM9_1 : b_1.2.2.2 = M := hM9_1
      have hP : va_P D vwCl ([] ++ BWW ad b_1) H := hP
      have hD : va_D A ([] ++ BWW ad b_1) := hD
      have hK : va_K D vwCl ([] ++ BWT b_1) s := hK
      refine vx_catch (own := RL) (name := "java/lang/IndexOutOfBoundsException") (E := "java/lang/IndexOutOfBoundsException") hown [] (⟨0, 6, 7, 36⟩ : ExceptionTableEntry) [(⟨0, 6, 12, 38⟩ : ExceptionTableEntry)] (htb.trans rfl) (fun z hz => by cases hz) (by decide) (by decide) (hts (.classLink RL 36 "java/lang/IndexOutOfBoundsException") (List.mem_of_getElem? (i := 1) (by decide +kernel))) (fxk_ hF "java/lang/IndexOutOfBoundsException" "java/lang/IndexOutOfBoundsException") hce hvm hcl ?_
      refine W.eq (g2 := F0 m 7 ls [.ref q9]) rfl ?_
      refine lv_astore_n (lv' := [(3, .ref q9), (0, .ref a0), (1, .int a1), (2, .int a2)]) hx hb dL_surveyorOf_7 rfl hl (by decide) rfl (fun ls hl => ?_)
      refine lv_sipush (v := (-1001)) hx hb dL_surveyorOf_8 (by decide +kernel) ?_
      refine W.widen (k := (FF9).2.2.1) (n := (FF9).2.2.2) (Nat.le_of_eq (by rw [hM]; first | done | rfl)) (Nat.le_of_eq (by rw [hM]; first | done | rfl)) ?_
      exact W.iret (v := (-1001)) hx hb hr (lw_ret (X := []) (Y := []) b_1 hP hD hK hS (by rw [hM]; first | done | rfl) ⟨(by rw [hM]; exact hM9_1), hb9_1, hBL_1, (by rw [hM]; exact XI.mono hXI_1 (show Bd ≤ Bd + 0 from (by have z0 := hBd; omega)))⟩) hS.2.2 dL_surveyorOf_11
    · have hM : FF9 = (adc (0 + 2) (0 + 12) (if y3.1 = 0 then (y3.2, M, 0, 0) else (if y3.1 = 2 then ((-1001), M, 0, 0) else ((-1002), M, 0, 0)))) := hM.trans (adc_adc _ _ _ _ _)
      rw [if_neg (show ¬ y3.1 = 0 from by rw [hst]; decide)] at hM
      rw [if_neg (show ¬ y3.1 = 2 from by rw [hst]; decide)] at hM
      have hXI_1 := hXI
      have hM9_1 : b_1.2.2.2 = M := hM9_1
      have hP : va_P D vwCl ([] ++ BWW ad b_1) H := hP
      have hD : va_D A ([] ++ BWW ad b_1) := hD
      have hK : va_K D vwCl ([] ++ BWT b_1) s := hK
      refine vx_catch (own := RL) (name := "java/lang/IllegalArgumentException") (E := "java/lang/IllegalArgumentException") hown [(⟨0, 6, 7, 36⟩ : ExceptionTableEntry)] (⟨0, 6, 12, 38⟩ : ExceptionTableEntry) [] (htb.trans rfl) (List.forall_mem_cons.mpr ⟨(Or.inr ⟨by decide, "java/lang/IndexOutOfBoundsException", (hts (.classLink RL 36 "java/lang/IndexOutOfBoundsException") (List.mem_of_getElem? (i := 1) (by decide +kernel))), fxd_ hF "java/lang/IllegalArgumentException" "java/lang/IndexOutOfBoundsException"⟩), (fun z hz => absurd hz List.not_mem_nil)⟩) (by decide) (by decide) (fxl_ hF (38, "java/lang/IllegalArgumentException")) (fxk_ hF "java/lang/IllegalArgumentException" "java/lang/IllegalArgumentException") hce hvm hcl ?_
      refine W.eq (g2 := F0 m 12 ls [.ref q9]) rfl ?_
      refine lv_astore_n (lv' := [(3, .ref q9), (0, .ref a0), (1, .int a1), (2, .int a2)]) hx hb dL_surveyorOf_12 rfl hl (by decide) rfl (fun ls hl => ?_)
      refine lv_sipush (v := (-1002)) hx hb dL_surveyorOf_13 (by decide +kernel) ?_
      refine W.widen (k := (FF9).2.2.1) (n := (FF9).2.2.2) (Nat.le_of_eq (by rw [hM]; first | done | rfl)) (Nat.le_of_eq (by rw [hM]; first | done | rfl)) ?_
      exact W.iret (v := (-1002)) hx hb hr (lw_ret (X := []) (Y := []) b_1 hP hD hK hS (by rw [hM]; first | done | rfl) ⟨(by rw [hM]; exact hM9_1), hb9_1, hBL_1, (by rw [hM]; exact XI.mono hXI_1 (show Bd ≤ Bd + 0 from (by have z0 := hBd; omega)))⟩) hS.2.2 dL_surveyorOf_16
def K_L_cost_3 (M : MS) (y3 : Nat × Int32) : Int32 × MS × Nat × Nat := (adc 3 18 (if y3.1 = 0 then (y3.2, M, 0, 0) else (if y3.1 = 2 then ((-1001), M, 0, 0) else ((-1002), M, 0, 0))))
def F_L_cost (M : MS) (a1 : Int32) (a2 : Int32) : Int32 × MS × Nat × Nat := (K_L_cost_3 M (FF_X10_cost M a1 a2))
set_option maxHeartbeats 4000000 in
set_option maxRecDepth 100000 in
theorem bl_L_cost (l : Launch) (hl0 : l.stackTraces = false) (D : va_G) (ad : Nat → Nat) (sz : Nat) (b : BX) (hBL : BL_ b) (a0 : Nat) (hb9 : b.1 79 = a0) (M : MS) (hM9 : b.2.2.2 = M) (Bd : Nat) (hXI : XI Bd M) (hBd : Bd + 0 ≤ 900000) (a1 : Int32) (a2 : Int32) : Met l yL_cost wsL_cost ({ frames := 8, cells := (F_L_cost M a1 a2).2.2.1, slots := (F_L_cost M a1 a2).2.2.2, locals := 148 }) (PC_ D ad (BWW ad b) (BWT b) sz [.ref a0, .int a1, .int a2]) (QB_ D (fun _ : BX => some (.int (F_L_cost M a1 a2).1)) (fun b' => b'.2.2.2 = (F_L_cost M a1 a2).2.1 ∧ b'.1 79 = a0 ∧ BL_ b' ∧ XI (Bd + 0) (F_L_cost M a1 a2).2.1) (BWW ad) BWT (va_A (BWW ad b) sz)) (F_L_cost M a1 a2).2.2.1 (F_L_cost M a1 a2).2.2.2 (va_A (BWW ad b) sz) := by
  refine va_MetW (cc := cL_cost) (maxL := 4) (ret := (some .int)) (by decide) rfl ?_
  intro p e s m args below meth c s₁ B hml hv
  obtain ⟨rfl, hsz, hP, hK, hD0, hF⟩ := hv
  have hx := B.exec
  have hb := B.bytes
  have hr := B.returns
  have hts := atoms_spec (ws := wsL_cost) B.pre
  have hown : s.vm.findClass RL = some m.cls := findClass_of_methodNamed B.named
  have hlocks := B.notSynchronized
  have htb := vx_table (x := yL_cost) B (hts _ (List.mem_cons_self))
  subst hsz
  have hD := hD0.self (sz := s.heap.size)
  generalize hAe : va_A (BWW ad b) s.heap.size = A at hD hF ⊢
  have hA : ∀ q : Nat, s.heap.size ≤ q → A q := fun q h => by rw [← hAe]; exact Or.inr h
  obtain ⟨H, hHe⟩ : ∃ H : Heap, H = s.heap := ⟨_, rfl⟩
  have hS : va_S A s.heap H [] := by rw [hHe]; exact va_S.rf
  have hP : va_P D vwCl ([] ++ BWW ad b) H := by rw [hHe]; exact hP
  have hD : va_D A ([] ++ BWW ad b) := hD
  have hK : va_K D vwCl ([] ++ BWT b) s := hK
  rw [← hHe]
  have hl := lv_entry [.ref a0, .int a1, .int a2] (n := 4) (Nat.le_of_ble_eq_true rfl)
  rw [lg_entry_eq]
  generalize (lg_sl [.ref a0, .int a1, .int a2] ++ List.replicate (4 - (lg_sl [.ref a0, .int a1, .int a2]).length) Slot.unset).toArray = ls at hl ⊢
  have hl : lv_has ls 4 [(0, .ref a0), (1, .int a1), (2, .int a2)] := hl
  generalize hF9 : F_L_cost M a1 a2 = FF9
  have hM : FF9 = (adc 0 0 (K_L_cost_3 M (FF_X10_cost M a1 a2))) := hF9.symm.trans (adc_0 _).symm
  refine lv_aload_n hx hb dL_cost_0 rfl (lv_at hl 0 rfl) ?_
  refine lv_iload_n hx hb dL_cost_1 rfl (lv_at hl 1 rfl) ?_
  refine lv_iload_n hx hb dL_cost_2 rfl (lv_at hl 2 rfl) ?_
  have hcon := (b_X10_cost l hl0 D ad H.size b hBL a1 a2 (by rw [hM9]; exact xh_X10_cost hXI (show Bd ≤ 900000 from (by have h9 := (show Bd ≤ 900000 from (by have z0 := hBd; omega)); omega)) a1 a2))
  rw [hM9, hb9] at hcon
  generalize hy_1 : (FF_X10_cost M a1 a2) = y3 at hcon hM
  have hM : FF9 = (adc 0 0 (adc 3 18 (if y3.1 = 0 then (y3.2, M, 0, 0) else (if y3.1 = 2 then ((-1001), M, 0, 0) else ((-1002), M, 0, 0))))) := hM
  refine kzwb_ [] [] (vx_runV (As := [.int a1, .int a2]) (rest := []) ⟨hx, hb, hml, hown, hts⟩ hcon (cwV 2 hts gL_cost_X10_cost rfl rfl rfl (by decide +kernel) ⟨Nat.le_of_ble_eq_true rfl, Nat.le_of_ble_eq_true rfl⟩) ⟨PC_.blind, (by rw [← hb9]; exact bw_recv (X := []) (Y := []) hK hP), lw_pre (X := []) (Y := []) hF hK hP hD hS hA⟩ rfl rfl hl.1 rfl (lv_room (Nat.le_of_ble_eq_true rfl)) dL_cost_3 ⟨(adc_r1 hM), (adc_s1 hM)⟩) hK hP hD hS hA (fun b_1 H locs hpo hP hD hK hS => ?_) (fun E9 ce q9 b_1 H locs hE hP hD hK hS hce hvm hcl => ?_)
  · have hM : FF9 = (adc (0 + 3) (0 + 18) (if y3.1 = 0 then (y3.2, M, 0, 0) else (if y3.1 = 2 then ((-1001), M, 0, 0) else ((-1002), M, 0, 0)))) := hM.trans (adc_adc _ _ _ _ _)
    obtain ⟨hst, hM9_1, hb9_1, hBL_1⟩ := hpo
    rw [if_pos hst] at hM
    have hXI_1 := hXI
    have hM9_1 : b_1.2.2.2 = M := hM9_1
    have hBL_1 : BL_ b_1 := hBL_1 hBL
    have hP : va_P D vwCl ([] ++ BWW ad b_1) H := hP
    have hD : va_D A ([] ++ BWW ad b_1) := hD
    have hK : va_K D vwCl ([] ++ BWT b_1) s := hK
    refine W.eq (g2 := F0 m 6 ls [.int y3.2]) rfl ?_
    refine W.widen (k := (FF9).2.2.1) (n := (FF9).2.2.2) (Nat.le_of_eq (by rw [hM]; first | done | rfl)) (Nat.le_of_eq (by rw [hM]; first | done | rfl)) ?_
    exact W.iret (v := y3.2) hx hb hr (lw_ret (X := []) (Y := []) b_1 hP hD hK hS (by rw [hM]; first | done | rfl) ⟨(by rw [hM]; exact hM9_1), hb9_1, hBL_1, (by rw [hM]; exact XI.mono hXI_1 (show Bd ≤ Bd + 0 from (by have z0 := hBd; omega)))⟩) hS.2.2 dL_cost_6
  · rcases hE with ⟨rfl, hst, hM9_1, hb9_1, hBL_1⟩ | ⟨rfl, hst, hM9_1, hb9_1, hBL_1⟩
    · have hM : FF9 = (adc (0 + 3) (0 + 18) (if y3.1 = 0 then (y3.2, M, 0, 0) else (if y3.1 = 2 then ((-1001), M, 0, 0) else ((-1002), M, 0, 0)))) := hM.trans (adc_adc _ _ _ _ _)
      rw [if_neg (show ¬ y3.1 = 0 from by rw [hst]; decide)] at hM
      rw [if_pos hst] at hM
      have hXI_1 := hXI
      have hM9_1 : b_1.2.2.2 = M := hM9_1
      have hBL_1 : BL_ b_1 := hBL_1 hBL
      have hP : va_P D vwCl ([] ++ BWW ad b_1) H := hP
      have hD : va_D A ([] ++ BWW ad b_1) := hD
      have hK : va_K D vwCl ([] ++ BWT b_1) s := hK
      refine vx_catch (own := RL) (name := "java/lang/IndexOutOfBoundsException") (E := "java/lang/IndexOutOfBoundsException") hown [] (⟨0, 6, 7, 36⟩ : ExceptionTableEntry) [(⟨0, 6, 12, 43⟩ : ExceptionTableEntry)] (htb.trans rfl) (fun z hz => by cases hz) (by decide) (by decide) (hts (.classLink RL 36 "java/lang/IndexOutOfBoundsException") (List.mem_of_getElem? (i := 1) (by decide +kernel))) (fxk_ hF "java/lang/IndexOutOfBoundsException" "java/lang/IndexOutOfBoundsException") hce hvm hcl ?_
      refine W.eq (g2 := F0 m 7 ls [.ref q9]) rfl ?_
      refine lv_astore_n (lv' := [(3, .ref q9), (0, .ref a0), (1, .int a1), (2, .int a2)]) hx hb dL_cost_7 rfl hl (by decide) rfl (fun ls hl => ?_)
      refine lv_sipush (v := (-1001)) hx hb dL_cost_8 (by decide +kernel) ?_
      refine W.widen (k := (FF9).2.2.1) (n := (FF9).2.2.2) (Nat.le_of_eq (by rw [hM]; first | done | rfl)) (Nat.le_of_eq (by rw [hM]; first | done | rfl)) ?_
      exact W.iret (v := (-1001)) hx hb hr (lw_ret (X := []) (Y := []) b_1 hP hD hK hS (by rw [hM]; first | done | rfl) ⟨(by rw [hM]; exact hM9_1), hb9_1, hBL_1, (by rw [hM]; exact XI.mono hXI_1 (show Bd ≤ Bd + 0 from (by have z0 := hBd; omega)))⟩) hS.2.2 dL_cost_11
    · have hM : FF9 = (adc (0 + 3) (0 + 18) (if y3.1 = 0 then (y3.2, M, 0, 0) else (if y3.1 = 2 then ((-1001), M, 0, 0) else ((-1002), M, 0, 0)))) := hM.trans (adc_adc _ _ _ _ _)
      rw [if_neg (show ¬ y3.1 = 0 from by rw [hst]; decide)] at hM
      rw [if_neg (show ¬ y3.1 = 2 from by rw [hst]; decide)] at hM
      have hXI_1 := hXI
      have hM9_1 : b_1.2.2.2 = M := hM9_1
      have hBL_1 : BL_ b_1 := hBL_1 hBL
      have hP : va_P D vwCl ([] ++ BWW ad b_1) H := hP
      have hD : va_D A ([] ++ BWW ad b_1) := hD
      have hK : va_K D vwCl ([] ++ BWT b_1) s := hK
      refine vx_catch (own := RL) (name := "java/util/NoSuchElementException") (E := "java/util/NoSuchElementException") hown [(⟨0, 6, 7, 36⟩ : ExceptionTableEntry)] (⟨0, 6, 12, 43⟩ : ExceptionTableEntry) [] (htb.trans rfl) (List.forall_mem_cons.mpr ⟨(Or.inr ⟨by decide, "java/lang/IndexOutOfBoundsException", (hts (.classLink RL 36 "java/lang/IndexOutOfBoundsException") (List.mem_of_getElem? (i := 1) (by decide +kernel))), fxd_ hF "java/util/NoSuchElementException" "java/lang/IndexOutOfBoundsException"⟩), (fun z hz => absurd hz List.not_mem_nil)⟩) (by decide) (by decide) (fxl_ hF (43, "java/util/NoSuchElementException")) (fxk_ hF "java/util/NoSuchElementException" "java/util/NoSuchElementException") hce hvm hcl ?_
      refine W.eq (g2 := F0 m 12 ls [.ref q9]) rfl ?_
      refine lv_astore_n (lv' := [(3, .ref q9), (0, .ref a0), (1, .int a1), (2, .int a2)]) hx hb dL_cost_12 rfl hl (by decide) rfl (fun ls hl => ?_)
      refine lv_sipush (v := (-1002)) hx hb dL_cost_13 (by decide +kernel) ?_
      refine W.widen (k := (FF9).2.2.1) (n := (FF9).2.2.2) (Nat.le_of_eq (by rw [hM]; first | done | rfl)) (Nat.le_of_eq (by rw [hM]; first | done | rfl)) ?_
      exact W.iret (v := (-1002)) hx hb hr (lw_ret (X := []) (Y := []) b_1 hP hD hK hS (by rw [hM]; first | done | rfl) ⟨(by rw [hM]; exact hM9_1), hb9_1, hBL_1, (by rw [hM]; exact XI.mono hXI_1 (show Bd ≤ Bd + 0 from (by have z0 := hBd; omega)))⟩) hS.2.2 dL_cost_16
def K_L_page_4 (M : MS) (y4 : Nat × Int32) : Int32 × MS × Nat × Nat := (adc 3 18 (if y4.1 = 0 then (y4.2, M, 0, 0) else (if y4.1 = 2 then ((-1001), M, 0, 0) else (if y4.1 = 3 then ((-1002), M, 0, 0) else ((-1003), M, 0, 0)))))
def F_L_page (M : MS) (a1 : Int32) (a2 : Int32) (a3 : Int32) : Int32 × MS × Nat × Nat := (K_L_page_4 M (FF_X10_page M a1 a2 a3))
set_option maxHeartbeats 4000000 in
set_option maxRecDepth 100000 in
theorem bl_L_page (l : Launch) (hl0 : l.stackTraces = false) (D : va_G) (ad : Nat → Nat) (sz : Nat) (b : BX) (hBL : BL_ b) (a0 : Nat) (hb9 : b.1 79 = a0) (M : MS) (hM9 : b.2.2.2 = M) (Bd : Nat) (hXI : XI Bd M) (hBd : Bd + 0 ≤ 900000) (a1 : Int32) (a2 : Int32) (a3 : Int32) : Met l yL_page wsL_page ({ frames := 8, cells := (F_L_page M a1 a2 a3).2.2.1, slots := (F_L_page M a1 a2 a3).2.2.2, locals := 149 }) (PC_ D ad (BWW ad b) (BWT b) sz [.ref a0, .int a1, .int a2, .int a3]) (QB_ D (fun _ : BX => some (.int (F_L_page M a1 a2 a3).1)) (fun b' => b'.2.2.2 = (F_L_page M a1 a2 a3).2.1 ∧ b'.1 79 = a0 ∧ BL_ b' ∧ XI (Bd + 0) (F_L_page M a1 a2 a3).2.1) (BWW ad) BWT (va_A (BWW ad b) sz)) (F_L_page M a1 a2 a3).2.2.1 (F_L_page M a1 a2 a3).2.2.2 (va_A (BWW ad b) sz) := by
  refine va_MetW (cc := cL_page) (maxL := 5) (ret := (some .int)) (by decide) rfl ?_
  intro p e s m args below meth c s₁ B hml hv
  obtain ⟨rfl, hsz, hP, hK, hD0, hF⟩ := hv
  have hx := B.exec
  have hb := B.bytes
  have hr := B.returns
  have hts := atoms_spec (ws := wsL_page) B.pre
  have hown : s.vm.findClass RL = some m.cls := findClass_of_methodNamed B.named
  have hlocks := B.notSynchronized
  have htb := vx_table (x := yL_page) B (hts _ (List.mem_cons_self))
  subst hsz
  have hD := hD0.self (sz := s.heap.size)
  generalize hAe : va_A (BWW ad b) s.heap.size = A at hD hF ⊢
  have hA : ∀ q : Nat, s.heap.size ≤ q → A q := fun q h => by rw [← hAe]; exact Or.inr h
  obtain ⟨H, hHe⟩ : ∃ H : Heap, H = s.heap := ⟨_, rfl⟩
  have hS : va_S A s.heap H [] := by rw [hHe]; exact va_S.rf
  have hP : va_P D vwCl ([] ++ BWW ad b) H := by rw [hHe]; exact hP
  have hD : va_D A ([] ++ BWW ad b) := hD
  have hK : va_K D vwCl ([] ++ BWT b) s := hK
  rw [← hHe]
  have hl := lv_entry [.ref a0, .int a1, .int a2, .int a3] (n := 5) (Nat.le_of_ble_eq_true rfl)
  rw [lg_entry_eq]
  generalize (lg_sl [.ref a0, .int a1, .int a2, .int a3] ++ List.replicate (5 - (lg_sl [.ref a0, .int a1, .int a2, .int a3]).length) Slot.unset).toArray = ls at hl ⊢
  have hl : lv_has ls 5 [(0, .ref a0), (1, .int a1), (2, .int a2), (3, .int a3)] := hl
  generalize hF9 : F_L_page M a1 a2 a3 = FF9
  have hM : FF9 = (adc 0 0 (K_L_page_4 M (FF_X10_page M a1 a2 a3))) := hF9.symm.trans (adc_0 _).symm
  refine lv_aload_n hx hb dL_page_0 rfl (lv_at hl 0 rfl) ?_
  refine lv_iload_n hx hb dL_page_1 rfl (lv_at hl 1 rfl) ?_
  refine lv_iload_n hx hb dL_page_2 rfl (lv_at hl 2 rfl) ?_
  refine lv_iload_n hx hb dL_page_3 rfl (lv_at hl 3 rfl) ?_
  have hcon := (b_X10_page l hl0 D ad H.size b hBL a1 a2 a3 (by rw [hM9]; exact xh_X10_page hXI (show Bd ≤ 900000 from (by have h9 := (show Bd ≤ 900000 from (by have z0 := hBd; omega)); omega)) a1 a2 a3))
  rw [hM9, hb9] at hcon
  generalize hy_1 : (FF_X10_page M a1 a2 a3) = y4 at hcon hM
  have hM : FF9 = (adc 0 0 (adc 3 18 (if y4.1 = 0 then (y4.2, M, 0, 0) else (if y4.1 = 2 then ((-1001), M, 0, 0) else (if y4.1 = 3 then ((-1002), M, 0, 0) else ((-1003), M, 0, 0)))))) := hM
  refine kzwb_ [] [] (vx_runV (As := [.int a1, .int a2, .int a3]) (rest := []) ⟨hx, hb, hml, hown, hts⟩ hcon (cwV 3 hts gL_page_X10_page rfl rfl rfl (by decide +kernel) ⟨Nat.le_of_ble_eq_true rfl, Nat.le_of_ble_eq_true rfl⟩) ⟨PC_.blind, (by rw [← hb9]; exact bw_recv (X := []) (Y := []) hK hP), lw_pre (X := []) (Y := []) hF hK hP hD hS hA⟩ rfl rfl hl.1 rfl (lv_room (Nat.le_of_ble_eq_true rfl)) dL_page_4 ⟨(adc_r1 hM), (adc_s1 hM)⟩) hK hP hD hS hA (fun b_1 H locs hpo hP hD hK hS => ?_) (fun E9 ce q9 b_1 H locs hE hP hD hK hS hce hvm hcl => ?_)
  · have hM : FF9 = (adc (0 + 3) (0 + 18) (if y4.1 = 0 then (y4.2, M, 0, 0) else (if y4.1 = 2 then ((-1001), M, 0, 0) else (if y4.1 = 3 then ((-1002), M, 0, 0) else ((-1003), M, 0, 0))))) := hM.trans (adc_adc _ _ _ _ _)
    obtain ⟨hst, hM9_1, hb9_1, hBL_1⟩ := hpo
    rw [if_pos hst] at hM
    have hXI_1 := hXI
    have hM9_1 : b_1.2.2.2 = M := hM9_1
    have hP : va_P D vwCl ([] ++ BWW ad b_1) H := hP
    have hD : va_D A ([] ++ BWW ad b_1) := hD
    have hK : va_K D vwCl ([] ++ BWT b_1) s := hK
    refine W.eq (g2 := F0 m 7 ls [.int y4.2]) rfl ?_
    refine W.widen (k := (FF9).2.2.1) (n := (FF9).2.2.2) (Nat.le_of_eq (by rw [hM]; first | done | rfl)) (Nat.le_of_eq (by rw [hM]; first | done | rfl)) ?_
    exact W.iret (v := y4.2) hx hb hr (lw_ret (X := []) (Y := []) b_1 hP hD hK hS (by rw [hM]; first | done | rfl) ⟨(by rw [hM]; exact hM9_1), hb9_1, hBL_1, (by rw [hM]; exact XI.mono hXI_1 (show Bd ≤ Bd + 0 from (by have z0 := hBd; omega)))⟩) hS.2.2 dL_page_7
  · rcases hE with ⟨rfl, hst, hM9_1, hb9_1, hBL_1⟩ | ⟨rfl, hst, hM9_1, hb9_1, hBL_1⟩ | ⟨rfl, hst, hM9_1, hb9_1, hBL_1⟩
    · have hM : FF9 = (adc (0 + 3) (0 + 18) (if y4.1 = 0 then (y4.2, M, 0, 0) else (if y4.1 = 2 then ((-1001), M, 0, 0) else (if y4.1 = 3 then ((-1002), M, 0, 0) else ((-1003), M, 0, 0))))) := hM.trans (adc_adc _ _ _ _ _)
      rw [if_neg (show ¬ y4.1 = 0 from by rw [hst]; decide)] at hM
      rw [if_pos hst] at hM
      have hXI_1 := hXI
      have hM9_1 : b_1.2.2.2 = M := hM9_1
      have hP : va_P D vwCl ([] ++ BWW ad b_1) H := hP
      have hD : va_D A ([] ++ BWW ad b_1) := hD
      have hK : va_K D vwCl ([] ++ BWT b_1) s := hK
      refine vx_catch (own := RL) (name := "java/lang/IndexOutOfBoundsException") (E := "java/lang/IndexOutOfBoundsException") hown [] (⟨0, 7, 8, 36⟩ : ExceptionTableEntry) [(⟨0, 7, 14, 38⟩ : ExceptionTableEntry), (⟨0, 7, 20, 43⟩ : ExceptionTableEntry)] (htb.trans rfl) (fun z hz => by cases hz) (by decide) (by decide) (hts (.classLink RL 36 "java/lang/IndexOutOfBoundsException") (List.mem_of_getElem? (i := 1) (by decide +kernel))) (fxk_ hF "java/lang/IndexOutOfBoundsException" "java/lang/IndexOutOfBoundsException") hce hvm hcl ?_
      refine W.eq (g2 := F0 m 8 ls [.ref q9]) rfl ?_
      refine lv_astore (lv' := [(4, .ref q9), (0, .ref a0), (1, .int a1), (2, .int a2), (3, .int a3)]) hx hb dL_page_8 hl (by decide) rfl (fun ls hl => ?_)
      refine lv_sipush (v := (-1001)) hx hb dL_page_10 (by decide +kernel) ?_
      refine W.widen (k := (FF9).2.2.1) (n := (FF9).2.2.2) (Nat.le_of_eq (by rw [hM]; first | done | rfl)) (Nat.le_of_eq (by rw [hM]; first | done | rfl)) ?_
      exact W.iret (v := (-1001)) hx hb hr (lw_ret (X := []) (Y := []) b_1 hP hD hK hS (by rw [hM]; first | done | rfl) ⟨(by rw [hM]; exact hM9_1), hb9_1, hBL_1, (by rw [hM]; exact XI.mono hXI_1 (show Bd ≤ Bd + 0 from (by have z0 := hBd; omega)))⟩) hS.2.2 dL_page_13
    · have hM : FF9 = (adc (0 + 3) (0 + 18) (if y4.1 = 0 then (y4.2, M, 0, 0) else (if y4.1 = 2 then ((-1001), M, 0, 0) else (if y4.1 = 3 then ((-1002), M, 0, 0) else ((-1003), M, 0, 0))))) := hM.trans (adc_adc _ _ _ _ _)
      rw [if_neg (show ¬ y4.1 = 0 from by rw [hst]; decide)] at hM
      rw [if_neg (show ¬ y4.1 = 2 from by rw [hst]; decide)] at hM
      rw [if_pos hst] at hM
      have hXI_1 := hXI
      have hM9_1 : b_1.2.2.2 = M := hM9_1
      have hP : va_P D vwCl ([] ++ BWW ad b_1) H := hP
      have hD : va_D A ([] ++ BWW ad b_1) := hD
      have hK : va_K D vwCl ([] ++ BWT b_1) s := hK
      refine vx_catch (own := RL) (name := "java/lang/IllegalArgumentException") (E := "java/lang/IllegalArgumentException") hown [(⟨0, 7, 8, 36⟩ : ExceptionTableEntry)] (⟨0, 7, 14, 38⟩ : ExceptionTableEntry) [(⟨0, 7, 20, 43⟩ : ExceptionTableEntry)] (htb.trans rfl) (List.forall_mem_cons.mpr ⟨(Or.inr ⟨by decide, "java/lang/IndexOutOfBoundsException", (hts (.classLink RL 36 "java/lang/IndexOutOfBoundsException") (List.mem_of_getElem? (i := 1) (by decide +kernel))), fxd_ hF "java/lang/IllegalArgumentException" "java/lang/IndexOutOfBoundsException"⟩), (fun z hz => absurd hz List.not_mem_nil)⟩) (by decide) (by decide) (fxl_ hF (38, "java/lang/IllegalArgumentException")) (fxk_ hF "java/lang/IllegalArgumentException" "java/lang/IllegalArgumentException") hce hvm hcl ?_
      refine W.eq (g2 := F0 m 14 ls [.ref q9]) rfl ?_
      refine lv_astore (lv' := [(4, .ref q9), (0, .ref a0), (1, .int a1), (2, .int a2), (3, .int a3)]) hx hb dL_page_14 hl (by decide) rfl (fun ls hl => ?_)
      refine lv_sipush (v := (-1002)) hx hb dL_page_16 (by decide +kernel) ?_
      refine W.widen (k := (FF9).2.2.1) (n := (FF9).2.2.2) (Nat.le_of_eq (by rw [hM]; first | done | rfl)) (Nat.le_of_eq (by rw [hM]; first | done | rfl)) ?_
      exact W.iret (v := (-1002)) hx hb hr (lw_ret (X := []) (Y := []) b_1 hP hD hK hS (by rw [hM]; first | done | rfl) ⟨(by rw [hM]; exact hM9_1), hb9_1, hBL_1, (by rw [hM]; exact XI.mono hXI_1 (show Bd ≤ Bd + 0 from (by have z0 := hBd; omega)))⟩) hS.2.2 dL_page_19
    · have hM : FF9 = (adc (0 + 3) (0 + 18) (if y4.1 = 0 then (y4.2, M, 0, 0) else (if y4.1 = 2 then ((-1001), M, 0, 0) else (if y4.1 = 3 then ((-1002), M, 0, 0) else ((-1003), M, 0, 0))))) := hM.trans (adc_adc _ _ _ _ _)
      rw [if_neg (show ¬ y4.1 = 0 from by rw [hst]; decide)] at hM
      rw [if_neg (show ¬ y4.1 = 2 from by rw [hst]; decide)] at hM
      rw [if_neg (show ¬ y4.1 = 3 from by rw [hst]; decide)] at hM
      have hXI_1 := hXI
      have hM9_1 : b_1.2.2.2 = M := hM9_1
      have hP : va_P D vwCl ([] ++ BWW ad b_1) H := hP
      have hD : va_D A ([] ++ BWW ad b_1) := hD
      have hK : va_K D vwCl ([] ++ BWT b_1) s := hK
      refine vx_catch (own := RL) (name := "java/util/NoSuchElementException") (E := "java/util/NoSuchElementException") hown [(⟨0, 7, 8, 36⟩ : ExceptionTableEntry), (⟨0, 7, 14, 38⟩ : ExceptionTableEntry)] (⟨0, 7, 20, 43⟩ : ExceptionTableEntry) [] (htb.trans rfl) (List.forall_mem_cons.mpr ⟨(Or.inr ⟨by decide, "java/lang/IndexOutOfBoundsException", (hts (.classLink RL 36 "java/lang/IndexOutOfBoundsException") (List.mem_of_getElem? (i := 1) (by decide +kernel))), fxd_ hF "java/util/NoSuchElementException" "java/lang/IndexOutOfBoundsException"⟩), (List.forall_mem_cons.mpr ⟨(Or.inr ⟨by decide, "java/lang/IllegalArgumentException", (fxl_ hF (38, "java/lang/IllegalArgumentException")), fxd_ hF "java/util/NoSuchElementException" "java/lang/IllegalArgumentException"⟩), (fun z hz => absurd hz List.not_mem_nil)⟩)⟩) (by decide) (by decide) (fxl_ hF (43, "java/util/NoSuchElementException")) (fxk_ hF "java/util/NoSuchElementException" "java/util/NoSuchElementException") hce hvm hcl ?_
      refine W.eq (g2 := F0 m 20 ls [.ref q9]) rfl ?_
      refine lv_astore (lv' := [(4, .ref q9), (0, .ref a0), (1, .int a1), (2, .int a2), (3, .int a3)]) hx hb dL_page_20 hl (by decide) rfl (fun ls hl => ?_)
      refine lv_sipush (v := (-1003)) hx hb dL_page_22 (by decide +kernel) ?_
      refine W.widen (k := (FF9).2.2.1) (n := (FF9).2.2.2) (Nat.le_of_eq (by rw [hM]; first | done | rfl)) (Nat.le_of_eq (by rw [hM]; first | done | rfl)) ?_
      exact W.iret (v := (-1003)) hx hb hr (lw_ret (X := []) (Y := []) b_1 hP hD hK hS (by rw [hM]; first | done | rfl) ⟨(by rw [hM]; exact hM9_1), hb9_1, hBL_1, (by rw [hM]; exact XI.mono hXI_1 (show Bd ≤ Bd + 0 from (by have z0 := hBd; omega)))⟩) hS.2.2 dL_page_25
def K_L_told_4 (M : MS) (y4 : Nat × Int32) : Int32 × MS × Nat × Nat := (adc 4 24 (if y4.1 = 0 then (y4.2, M, 0, 0) else (if y4.1 = 2 then ((-1001), M, 0, 0) else ((-1002), M, 0, 0))))
def F_L_told (M : MS) (a1 : Int32) (a2 : Int32) (a3 : Int32) : Int32 × MS × Nat × Nat := (K_L_told_4 M (FF_X10_told M a1 a2 a3))
set_option maxHeartbeats 4000000 in
set_option maxRecDepth 100000 in
theorem bl_L_told (l : Launch) (hl0 : l.stackTraces = false) (D : va_G) (ad : Nat → Nat) (sz : Nat) (b : BX) (hBL : BL_ b) (a0 : Nat) (hb9 : b.1 79 = a0) (M : MS) (hM9 : b.2.2.2 = M) (Bd : Nat) (hXI : XI Bd M) (hBd : Bd + 0 ≤ 900000) (a1 : Int32) (a2 : Int32) (a3 : Int32) : Met l yL_told wsL_told ({ frames := 8, cells := (F_L_told M a1 a2 a3).2.2.1, slots := (F_L_told M a1 a2 a3).2.2.2, locals := 149 }) (PC_ D ad (BWW ad b) (BWT b) sz [.ref a0, .int a1, .int a2, .int a3]) (QB_ D (fun _ : BX => some (.int (F_L_told M a1 a2 a3).1)) (fun b' => b'.2.2.2 = (F_L_told M a1 a2 a3).2.1 ∧ b'.1 79 = a0 ∧ BL_ b' ∧ XI (Bd + 0) (F_L_told M a1 a2 a3).2.1) (BWW ad) BWT (va_A (BWW ad b) sz)) (F_L_told M a1 a2 a3).2.2.1 (F_L_told M a1 a2 a3).2.2.2 (va_A (BWW ad b) sz) := by
  refine va_MetW (cc := cL_told) (maxL := 5) (ret := (some .int)) (by decide) rfl ?_
  intro p e s m args below meth c s₁ B hml hv
  obtain ⟨rfl, hsz, hP, hK, hD0, hF⟩ := hv
  have hx := B.exec
  have hb := B.bytes
  have hr := B.returns
  have hts := atoms_spec (ws := wsL_told) B.pre
  have hown : s.vm.findClass RL = some m.cls := findClass_of_methodNamed B.named
  have hlocks := B.notSynchronized
  have htb := vx_table (x := yL_told) B (hts _ (List.mem_cons_self))
  subst hsz
  have hD := hD0.self (sz := s.heap.size)
  generalize hAe : va_A (BWW ad b) s.heap.size = A at hD hF ⊢
  have hA : ∀ q : Nat, s.heap.size ≤ q → A q := fun q h => by rw [← hAe]; exact Or.inr h
  obtain ⟨H, hHe⟩ : ∃ H : Heap, H = s.heap := ⟨_, rfl⟩
  have hS : va_S A s.heap H [] := by rw [hHe]; exact va_S.rf
  have hP : va_P D vwCl ([] ++ BWW ad b) H := by rw [hHe]; exact hP
  have hD : va_D A ([] ++ BWW ad b) := hD
  have hK : va_K D vwCl ([] ++ BWT b) s := hK
  rw [← hHe]
  have hl := lv_entry [.ref a0, .int a1, .int a2, .int a3] (n := 5) (Nat.le_of_ble_eq_true rfl)
  rw [lg_entry_eq]
  generalize (lg_sl [.ref a0, .int a1, .int a2, .int a3] ++ List.replicate (5 - (lg_sl [.ref a0, .int a1, .int a2, .int a3]).length) Slot.unset).toArray = ls at hl ⊢
  have hl : lv_has ls 5 [(0, .ref a0), (1, .int a1), (2, .int a2), (3, .int a3)] := hl
  generalize hF9 : F_L_told M a1 a2 a3 = FF9
  have hM : FF9 = (adc 0 0 (K_L_told_4 M (FF_X10_told M a1 a2 a3))) := hF9.symm.trans (adc_0 _).symm
  refine lv_aload_n hx hb dL_told_0 rfl (lv_at hl 0 rfl) ?_
  refine lv_iload_n hx hb dL_told_1 rfl (lv_at hl 1 rfl) ?_
  refine lv_iload_n hx hb dL_told_2 rfl (lv_at hl 2 rfl) ?_
  refine lv_iload_n hx hb dL_told_3 rfl (lv_at hl 3 rfl) ?_
  have hcon := (b_X10_told l hl0 D ad H.size b hBL a1 a2 a3 (by rw [hM9]; exact xh_X10_told hXI (show Bd ≤ 900000 from (by have h9 := (show Bd ≤ 900000 from (by have z0 := hBd; omega)); omega)) a1 a2 a3))
  rw [hM9, hb9] at hcon
  generalize hy_1 : (FF_X10_told M a1 a2 a3) = y4 at hcon hM
  have hM : FF9 = (adc 0 0 (adc 4 24 (if y4.1 = 0 then (y4.2, M, 0, 0) else (if y4.1 = 2 then ((-1001), M, 0, 0) else ((-1002), M, 0, 0))))) := hM
  refine kzwb_ [] [] (vx_runV (As := [.int a1, .int a2, .int a3]) (rest := []) ⟨hx, hb, hml, hown, hts⟩ hcon (cwV 3 hts gL_told_X10_told rfl rfl rfl (by decide +kernel) ⟨Nat.le_of_ble_eq_true rfl, Nat.le_of_ble_eq_true rfl⟩) ⟨PC_.blind, (by rw [← hb9]; exact bw_recv (X := []) (Y := []) hK hP), lw_pre (X := []) (Y := []) hF hK hP hD hS hA⟩ rfl rfl hl.1 rfl (lv_room (Nat.le_of_ble_eq_true rfl)) dL_told_4 ⟨(adc_r1 hM), (adc_s1 hM)⟩) hK hP hD hS hA (fun b_1 H locs hpo hP hD hK hS => ?_) (fun E9 ce q9 b_1 H locs hE hP hD hK hS hce hvm hcl => ?_)
  · have hM : FF9 = (adc (0 + 4) (0 + 24) (if y4.1 = 0 then (y4.2, M, 0, 0) else (if y4.1 = 2 then ((-1001), M, 0, 0) else ((-1002), M, 0, 0)))) := hM.trans (adc_adc _ _ _ _ _)
    obtain ⟨hst, hM9_1, hb9_1, hBL_1⟩ := hpo
    rw [if_pos hst] at hM
    have hXI_1 := hXI
    have hM9_1 : b_1.2.2.2 = M := hM9_1
    have hP : va_P D vwCl ([] ++ BWW ad b_1) H := hP
    have hD : va_D A ([] ++ BWW ad b_1) := hD
    have hK : va_K D vwCl ([] ++ BWT b_1) s := hK
    refine W.eq (g2 := F0 m 7 ls [.int y4.2]) rfl ?_
    refine W.widen (k := (FF9).2.2.1) (n := (FF9).2.2.2) (Nat.le_of_eq (by rw [hM]; first | done | rfl)) (Nat.le_of_eq (by rw [hM]; first | done | rfl)) ?_
    exact W.iret (v := y4.2) hx hb hr (lw_ret (X := []) (Y := []) b_1 hP hD hK hS (by rw [hM]; first | done | rfl) ⟨(by rw [hM]; exact hM9_1), hb9_1, hBL_1, (by rw [hM]; exact XI.mono hXI_1 (show Bd ≤ Bd + 0 from (by have z0 := hBd; omega)))⟩) hS.2.2 dL_told_7
  · rcases hE with ⟨rfl, hst, hM9_1, hb9_1, hBL_1⟩ | ⟨rfl, hst, hM9_1, hb9_1, hBL_1⟩
    · have hM : FF9 = (adc (0 + 4) (0 + 24) (if y4.1 = 0 then (y4.2, M, 0, 0) else (if y4.1 = 2 then ((-1001), M, 0, 0) else ((-1002), M, 0, 0)))) := hM.trans (adc_adc _ _ _ _ _)
      rw [if_neg (show ¬ y4.1 = 0 from by rw [hst]; decide)] at hM
      rw [if_pos hst] at hM
      have hXI_1 := hXI
      have hM9_1 : b_1.2.2.2 = M := hM9_1
      have hP : va_P D vwCl ([] ++ BWW ad b_1) H := hP
      have hD : va_D A ([] ++ BWW ad b_1) := hD
      have hK : va_K D vwCl ([] ++ BWT b_1) s := hK
      refine vx_catch (own := RL) (name := "java/lang/IndexOutOfBoundsException") (E := "java/lang/IndexOutOfBoundsException") hown [] (⟨0, 7, 8, 36⟩ : ExceptionTableEntry) [(⟨0, 7, 14, 43⟩ : ExceptionTableEntry)] (htb.trans rfl) (fun z hz => by cases hz) (by decide) (by decide) (hts (.classLink RL 36 "java/lang/IndexOutOfBoundsException") (List.mem_of_getElem? (i := 1) (by decide +kernel))) (fxk_ hF "java/lang/IndexOutOfBoundsException" "java/lang/IndexOutOfBoundsException") hce hvm hcl ?_
      refine W.eq (g2 := F0 m 8 ls [.ref q9]) rfl ?_
      refine lv_astore (lv' := [(4, .ref q9), (0, .ref a0), (1, .int a1), (2, .int a2), (3, .int a3)]) hx hb dL_told_8 hl (by decide) rfl (fun ls hl => ?_)
      refine lv_sipush (v := (-1001)) hx hb dL_told_10 (by decide +kernel) ?_
      refine W.widen (k := (FF9).2.2.1) (n := (FF9).2.2.2) (Nat.le_of_eq (by rw [hM]; first | done | rfl)) (Nat.le_of_eq (by rw [hM]; first | done | rfl)) ?_
      exact W.iret (v := (-1001)) hx hb hr (lw_ret (X := []) (Y := []) b_1 hP hD hK hS (by rw [hM]; first | done | rfl) ⟨(by rw [hM]; exact hM9_1), hb9_1, hBL_1, (by rw [hM]; exact XI.mono hXI_1 (show Bd ≤ Bd + 0 from (by have z0 := hBd; omega)))⟩) hS.2.2 dL_told_13
    · have hM : FF9 = (adc (0 + 4) (0 + 24) (if y4.1 = 0 then (y4.2, M, 0, 0) else (if y4.1 = 2 then ((-1001), M, 0, 0) else ((-1002), M, 0, 0)))) := hM.trans (adc_adc _ _ _ _ _)
      rw [if_neg (show ¬ y4.1 = 0 from by rw [hst]; decide)] at hM
      rw [if_neg (show ¬ y4.1 = 2 from by rw [hst]; decide)] at hM
      have hXI_1 := hXI
      have hM9_1 : b_1.2.2.2 = M := hM9_1
      have hP : va_P D vwCl ([] ++ BWW ad b_1) H := hP
      have hD : va_D A ([] ++ BWW ad b_1) := hD
      have hK : va_K D vwCl ([] ++ BWT b_1) s := hK
      refine vx_catch (own := RL) (name := "java/util/NoSuchElementException") (E := "java/util/NoSuchElementException") hown [(⟨0, 7, 8, 36⟩ : ExceptionTableEntry)] (⟨0, 7, 14, 43⟩ : ExceptionTableEntry) [] (htb.trans rfl) (List.forall_mem_cons.mpr ⟨(Or.inr ⟨by decide, "java/lang/IndexOutOfBoundsException", (hts (.classLink RL 36 "java/lang/IndexOutOfBoundsException") (List.mem_of_getElem? (i := 1) (by decide +kernel))), fxd_ hF "java/util/NoSuchElementException" "java/lang/IndexOutOfBoundsException"⟩), (fun z hz => absurd hz List.not_mem_nil)⟩) (by decide) (by decide) (fxl_ hF (43, "java/util/NoSuchElementException")) (fxk_ hF "java/util/NoSuchElementException" "java/util/NoSuchElementException") hce hvm hcl ?_
      refine W.eq (g2 := F0 m 14 ls [.ref q9]) rfl ?_
      refine lv_astore (lv' := [(4, .ref q9), (0, .ref a0), (1, .int a1), (2, .int a2), (3, .int a3)]) hx hb dL_told_14 hl (by decide) rfl (fun ls hl => ?_)
      refine lv_sipush (v := (-1002)) hx hb dL_told_16 (by decide +kernel) ?_
      refine W.widen (k := (FF9).2.2.1) (n := (FF9).2.2.2) (Nat.le_of_eq (by rw [hM]; first | done | rfl)) (Nat.le_of_eq (by rw [hM]; first | done | rfl)) ?_
      exact W.iret (v := (-1002)) hx hb hr (lw_ret (X := []) (Y := []) b_1 hP hD hK hS (by rw [hM]; first | done | rfl) ⟨(by rw [hM]; exact hM9_1), hb9_1, hBL_1, (by rw [hM]; exact XI.mono hXI_1 (show Bd ≤ Bd + 0 from (by have z0 := hBd; omega)))⟩) hS.2.2 dL_told_19
def K_L_letter_3 (M : MS) (y3 : Nat × Int32) : Int32 × MS × Nat × Nat := (adc 1 6 (if y3.1 = 0 then (y3.2, M, 0, 0) else (if y3.1 = 3 then ((-1001), M, 0, 0) else ((-1002), M, 0, 0))))
def F_L_letter (M : MS) (a1 : Int32) (a2 : Int32) : Int32 × MS × Nat × Nat := (K_L_letter_3 M (FF_X10_letter M a1 a2))
set_option maxHeartbeats 4000000 in
set_option maxRecDepth 100000 in
theorem bl_L_letter (l : Launch) (hl0 : l.stackTraces = false) (D : va_G) (ad : Nat → Nat) (sz : Nat) (b : BX) (hBL : BL_ b) (a0 : Nat) (hb9 : b.1 79 = a0) (M : MS) (hM9 : b.2.2.2 = M) (Bd : Nat) (hXI : XI Bd M) (hBd : Bd + 0 ≤ 900000) (a1 : Int32) (a2 : Int32) : Met l yL_letter wsL_letter ({ frames := 7, cells := (F_L_letter M a1 a2).2.2.1, slots := (F_L_letter M a1 a2).2.2.2, locals := 140 }) (PC_ D ad (BWW ad b) (BWT b) sz [.ref a0, .int a1, .int a2]) (QB_ D (fun _ : BX => some (.int (F_L_letter M a1 a2).1)) (fun b' => b'.2.2.2 = (F_L_letter M a1 a2).2.1 ∧ b'.1 79 = a0 ∧ BL_ b' ∧ XI (Bd + 0) (F_L_letter M a1 a2).2.1) (BWW ad) BWT (va_A (BWW ad b) sz)) (F_L_letter M a1 a2).2.2.1 (F_L_letter M a1 a2).2.2.2 (va_A (BWW ad b) sz) := by
  refine va_MetW (cc := cL_letter) (maxL := 4) (ret := (some .int)) (by decide) rfl ?_
  intro p e s m args below meth c s₁ B hml hv
  obtain ⟨rfl, hsz, hP, hK, hD0, hF⟩ := hv
  have hx := B.exec
  have hb := B.bytes
  have hr := B.returns
  have hts := atoms_spec (ws := wsL_letter) B.pre
  have hown : s.vm.findClass RL = some m.cls := findClass_of_methodNamed B.named
  have hlocks := B.notSynchronized
  have htb := vx_table (x := yL_letter) B (hts _ (List.mem_cons_self))
  subst hsz
  have hD := hD0.self (sz := s.heap.size)
  generalize hAe : va_A (BWW ad b) s.heap.size = A at hD hF ⊢
  have hA : ∀ q : Nat, s.heap.size ≤ q → A q := fun q h => by rw [← hAe]; exact Or.inr h
  obtain ⟨H, hHe⟩ : ∃ H : Heap, H = s.heap := ⟨_, rfl⟩
  have hS : va_S A s.heap H [] := by rw [hHe]; exact va_S.rf
  have hP : va_P D vwCl ([] ++ BWW ad b) H := by rw [hHe]; exact hP
  have hD : va_D A ([] ++ BWW ad b) := hD
  have hK : va_K D vwCl ([] ++ BWT b) s := hK
  rw [← hHe]
  have hl := lv_entry [.ref a0, .int a1, .int a2] (n := 4) (Nat.le_of_ble_eq_true rfl)
  rw [lg_entry_eq]
  generalize (lg_sl [.ref a0, .int a1, .int a2] ++ List.replicate (4 - (lg_sl [.ref a0, .int a1, .int a2]).length) Slot.unset).toArray = ls at hl ⊢
  have hl : lv_has ls 4 [(0, .ref a0), (1, .int a1), (2, .int a2)] := hl
  generalize hF9 : F_L_letter M a1 a2 = FF9
  have hM : FF9 = (adc 0 0 (K_L_letter_3 M (FF_X10_letter M a1 a2))) := hF9.symm.trans (adc_0 _).symm
  refine lv_aload_n hx hb dL_letter_0 rfl (lv_at hl 0 rfl) ?_
  refine lv_iload_n hx hb dL_letter_1 rfl (lv_at hl 1 rfl) ?_
  refine lv_iload_n hx hb dL_letter_2 rfl (lv_at hl 2 rfl) ?_
  have hcon := (b_X10_letter l hl0 D ad H.size b hBL a1 a2 (by rw [hM9]; exact xh_X10_letter hXI (show Bd ≤ 900000 from (by have h9 := (show Bd ≤ 900000 from (by have z0 := hBd; omega)); omega)) a1 a2))
  rw [hM9, hb9] at hcon
  generalize hy_1 : (FF_X10_letter M a1 a2) = y3 at hcon hM
  have hM : FF9 = (adc 0 0 (adc 1 6 (if y3.1 = 0 then (y3.2, M, 0, 0) else (if y3.1 = 3 then ((-1001), M, 0, 0) else ((-1002), M, 0, 0))))) := hM
  refine kzwb_ [] [] (vx_runV (As := [.int a1, .int a2]) (rest := []) ⟨hx, hb, hml, hown, hts⟩ hcon (cwV 2 hts gL_letter_X10_letter rfl rfl rfl (by decide +kernel) ⟨Nat.le_of_ble_eq_true rfl, Nat.le_of_ble_eq_true rfl⟩) ⟨PC_.blind, (by rw [← hb9]; exact bw_recv (X := []) (Y := []) hK hP), lw_pre (X := []) (Y := []) hF hK hP hD hS hA⟩ rfl rfl hl.1 rfl (lv_room (Nat.le_of_ble_eq_true rfl)) dL_letter_3 ⟨(adc_r1 hM), (adc_s1 hM)⟩) hK hP hD hS hA (fun b_1 H locs hpo hP hD hK hS => ?_) (fun E9 ce q9 b_1 H locs hE hP hD hK hS hce hvm hcl => ?_)
  · have hM : FF9 = (adc (0 + 1) (0 + 6) (if y3.1 = 0 then (y3.2, M, 0, 0) else (if y3.1 = 3 then ((-1001), M, 0, 0) else ((-1002), M, 0, 0)))) := hM.trans (adc_adc _ _ _ _ _)
    obtain ⟨hst, hM9_1, hb9_1, hBL_1⟩ := hpo
    rw [if_pos hst] at hM
    have hXI_1 := hXI
    have hM9_1 : b_1.2.2.2 = M := hM9_1
    have hP : va_P D vwCl ([] ++ BWW ad b_1) H := hP
    have hD : va_D A ([] ++ BWW ad b_1) := hD
    have hK : va_K D vwCl ([] ++ BWT b_1) s := hK
    refine W.eq (g2 := F0 m 6 ls [.int y3.2]) rfl ?_
    refine W.widen (k := (FF9).2.2.1) (n := (FF9).2.2.2) (Nat.le_of_eq (by rw [hM]; first | done | rfl)) (Nat.le_of_eq (by rw [hM]; first | done | rfl)) ?_
    exact W.iret (v := y3.2) hx hb hr (lw_ret (X := []) (Y := []) b_1 hP hD hK hS (by rw [hM]; first | done | rfl) ⟨(by rw [hM]; exact hM9_1), hb9_1, hBL_1, (by rw [hM]; exact XI.mono hXI_1 (show Bd ≤ Bd + 0 from (by have z0 := hBd; omega)))⟩) hS.2.2 dL_letter_6
  · rcases hE with ⟨rfl, hst, hM9_1, hb9_1, hBL_1⟩ | ⟨rfl, hst, hM9_1, hb9_1, hBL_1⟩
    · have hM : FF9 = (adc (0 + 1) (0 + 6) (if y3.1 = 0 then (y3.2, M, 0, 0) else (if y3.1 = 3 then ((-1001), M, 0, 0) else ((-1002), M, 0, 0)))) := hM.trans (adc_adc _ _ _ _ _)
      rw [if_neg (show ¬ y3.1 = 0 from by rw [hst]; decide)] at hM
      rw [if_pos hst] at hM
      have hXI_1 := hXI
      have hM9_1 : b_1.2.2.2 = M := hM9_1
      have hP : va_P D vwCl ([] ++ BWW ad b_1) H := hP
      have hD : va_D A ([] ++ BWW ad b_1) := hD
      have hK : va_K D vwCl ([] ++ BWT b_1) s := hK
      refine vx_catch (own := RL) (name := "java/lang/IllegalArgumentException") (E := "java/lang/IllegalArgumentException") hown [] (⟨0, 6, 7, 38⟩ : ExceptionTableEntry) [(⟨0, 6, 12, 43⟩ : ExceptionTableEntry)] (htb.trans rfl) (fun z hz => by cases hz) (by decide) (by decide) (hts (.classLink RL 38 "java/lang/IllegalArgumentException") (List.mem_of_getElem? (i := 1) (by decide +kernel))) (fxk_ hF "java/lang/IllegalArgumentException" "java/lang/IllegalArgumentException") hce hvm hcl ?_
      refine W.eq (g2 := F0 m 7 ls [.ref q9]) rfl ?_
      refine lv_astore_n (lv' := [(3, .ref q9), (0, .ref a0), (1, .int a1), (2, .int a2)]) hx hb dL_letter_7 rfl hl (by decide) rfl (fun ls hl => ?_)
      refine lv_sipush (v := (-1001)) hx hb dL_letter_8 (by decide +kernel) ?_
      refine W.widen (k := (FF9).2.2.1) (n := (FF9).2.2.2) (Nat.le_of_eq (by rw [hM]; first | done | rfl)) (Nat.le_of_eq (by rw [hM]; first | done | rfl)) ?_
      exact W.iret (v := (-1001)) hx hb hr (lw_ret (X := []) (Y := []) b_1 hP hD hK hS (by rw [hM]; first | done | rfl) ⟨(by rw [hM]; exact hM9_1), hb9_1, hBL_1, (by rw [hM]; exact XI.mono hXI_1 (show Bd ≤ Bd + 0 from (by have z0 := hBd; omega)))⟩) hS.2.2 dL_letter_11
    · have hM : FF9 = (adc (0 + 1) (0 + 6) (if y3.1 = 0 then (y3.2, M, 0, 0) else (if y3.1 = 3 then ((-1001), M, 0, 0) else ((-1002), M, 0, 0)))) := hM.trans (adc_adc _ _ _ _ _)
      rw [if_neg (show ¬ y3.1 = 0 from by rw [hst]; decide)] at hM
      rw [if_neg (show ¬ y3.1 = 3 from by rw [hst]; decide)] at hM
      have hXI_1 := hXI
      have hM9_1 : b_1.2.2.2 = M := hM9_1
      have hP : va_P D vwCl ([] ++ BWW ad b_1) H := hP
      have hD : va_D A ([] ++ BWW ad b_1) := hD
      have hK : va_K D vwCl ([] ++ BWT b_1) s := hK
      refine vx_catch (own := RL) (name := "java/util/NoSuchElementException") (E := "java/util/NoSuchElementException") hown [(⟨0, 6, 7, 38⟩ : ExceptionTableEntry)] (⟨0, 6, 12, 43⟩ : ExceptionTableEntry) [] (htb.trans rfl) (List.forall_mem_cons.mpr ⟨(Or.inr ⟨by decide, "java/lang/IllegalArgumentException", (hts (.classLink RL 38 "java/lang/IllegalArgumentException") (List.mem_of_getElem? (i := 1) (by decide +kernel))), fxd_ hF "java/util/NoSuchElementException" "java/lang/IllegalArgumentException"⟩), (fun z hz => absurd hz List.not_mem_nil)⟩) (by decide) (by decide) (fxl_ hF (43, "java/util/NoSuchElementException")) (fxk_ hF "java/util/NoSuchElementException" "java/util/NoSuchElementException") hce hvm hcl ?_
      refine W.eq (g2 := F0 m 12 ls [.ref q9]) rfl ?_
      refine lv_astore_n (lv' := [(3, .ref q9), (0, .ref a0), (1, .int a1), (2, .int a2)]) hx hb dL_letter_12 rfl hl (by decide) rfl (fun ls hl => ?_)
      refine lv_sipush (v := (-1002)) hx hb dL_letter_13 (by decide +kernel) ?_
      refine W.widen (k := (FF9).2.2.1) (n := (FF9).2.2.2) (Nat.le_of_eq (by rw [hM]; first | done | rfl)) (Nat.le_of_eq (by rw [hM]; first | done | rfl)) ?_
      exact W.iret (v := (-1002)) hx hb hr (lw_ret (X := []) (Y := []) b_1 hP hD hK hS (by rw [hM]; first | done | rfl) ⟨(by rw [hM]; exact hM9_1), hb9_1, hBL_1, (by rw [hM]; exact XI.mono hXI_1 (show Bd ≤ Bd + 0 from (by have z0 := hBd; omega)))⟩) hS.2.2 dL_letter_16
