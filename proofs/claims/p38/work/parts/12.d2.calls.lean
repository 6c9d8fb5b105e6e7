def K_L_distance_3 (M : MS) (y3 : Nat × Int32 × (Nat → Int32) × (Nat → Int32)) : Int32 × MS × Nat × Nat := (adc 3 18 (if y3.1 = 0 then (y3.2.1, (T_X10_distance M y3), 0, 0) else (if y3.1 = 2 then ((-1001), (T_X10_distance M y3), 0, 0) else ((-1002), (T_X10_distance M y3), 0, 0))))
def F_L_distance (M : MS) (a1 : Int32) (a2 : Int32) : Int32 × MS × Nat × Nat := (K_L_distance_3 M (FF_X10_distance M a1 a2))
set_option maxHeartbeats 4000000 in
set_option maxRecDepth 100000 in
theorem bl_L_distance (l : Launch) (hl0 : l.stackTraces = false) (D : va_G) (ad : Nat → Nat) (sz : Nat) (b : BX) (hBL : BL_ b) (a0 : Nat) (hb9 : b.1 79 = a0) (M : MS) (hM9 : b.2.2.2 = M) (Bd : Nat) (hXI : XI Bd M) (hBd : Bd + 0 ≤ 900000) (a1 : Int32) (a2 : Int32) : Met l yL_distance wsL_distance ({ frames := 8, cells := (F_L_distance M a1 a2).2.2.1, slots := (F_L_distance M a1 a2).2.2.2, locals := 169 }) (PC_ D ad (BWW ad b) (BWT b) sz [.ref a0, .int a1, .int a2]) (QB_ D (fun _ : BX => some (.int (F_L_distance M a1 a2).1)) (fun b' => b'.2.2.2 = (F_L_distance M a1 a2).2.1 ∧ b'.1 79 = a0 ∧ BL_ b' ∧ XI (Bd + 0) (F_L_distance M a1 a2).2.1) (BWW ad) BWT (va_A (BWW ad b) sz)) (F_L_distance M a1 a2).2.2.1 (F_L_distance M a1 a2).2.2.2 (va_A (BWW ad b) sz) := by
  refine va_MetW (cc := cL_distance) (maxL := 4) (ret := (some .int)) (by decide) rfl ?_
  intro p e s m args below meth c s₁ B hml hv
  obtain ⟨rfl, hsz, hP, hK, hD0, hF⟩ := hv
  have hx := B.exec
  have hb := B.bytes
  have hr := B.returns
  have hts := atoms_spec (ws := wsL_distance) B.pre
  have hown : s.vm.findClass RL = some m.cls := findClass_of_methodNamed B.named
  have hlocks := B.notSynchronized
  have htb := vx_table (x := yL_distance) B (hts _ (List.mem_cons_self))
  subst hsz
  have hD := hD0.self (sz := s.heap.size)
  generalize hAe : va_A (BWW ad b) s.heap.size = A at hD hF ⊢
  have hA : ∀ q : Nat, s.heap.size ≤ q → A q := fun q h => by rw [← hAe]; exact Or.inr h
  obtain ⟨H, hHe⟩ : ∃ H : Heap, H = s.heap := ⟨_, rfl⟩
  have hS : va_S A s.heap H [] := by rw [hHe]; exact va_S.rf
  have hP : va_P D vwCl ([] ++ BWW ad b) H := by rw [hHe]; exact hP
  have hD : va_D A ([] ++ BWW ad b) := hD
  have hK : va_K D vwCl ([] ++ BWT b) s := hK
  rw [← hHe]
  have hl := lv_entry [.ref a0, .int a1, .int a2] (n := 4) (Nat.le_of_ble_eq_true rfl)
  rw [lg_entry_eq]
  generalize (lg_sl [.ref a0, .int a1, .int a2] ++ List.replicate (4 - (lg_sl [.ref a0, .int a1, .int a2]).length) Slot.unset).toArray = ls at hl ⊢
  have hl : lv_has ls 4 [(0, .ref a0), (1, .int a1), (2, .int a2)] := hl
  generalize hF9 : F_L_distance M a1 a2 = FF9
  have hM : FF9 = (adc 0 0 (K_L_distance_3 M (FF_X10_distance M a1 a2))) := hF9.symm.trans (adc_0 _).symm
  refine lv_aload_n hx hb dL_distance_0 rfl (lv_at hl 0 rfl) ?_
  refine lv_iload_n hx hb dL_distance_1 rfl (lv_at hl 1 rfl) ?_
  refine lv_iload_n hx hb dL_distance_2 rfl (lv_at hl 2 rfl) ?_
  have hcon := (b_X10_distance l hl0 D ad H.size b hBL a1 a2 (by rw [hM9]; exact xh_X10_distance hXI (show Bd ≤ 900000 from (by have h9 := (show Bd ≤ 900000 from (by have z0 := hBd; omega)); omega)) a1 a2))
  rw [hM9, hb9] at hcon
  generalize hy_1 : (FF_X10_distance M a1 a2) = y3 at hcon hM
  have hM : FF9 = (adc 0 0 (adc 3 18 (if y3.1 = 0 then (y3.2.1, (T_X10_distance M y3), 0, 0) else (if y3.1 = 2 then ((-1001), (T_X10_distance M y3), 0, 0) else ((-1002), (T_X10_distance M y3), 0, 0))))) := hM
  refine kzwb_ [] [] (vx_runV (As := [.int a1, .int a2]) (rest := []) ⟨hx, hb, hml, hown, hts⟩ hcon (cwV 2 hts gL_distance_X10_distance rfl rfl rfl (by decide +kernel) ⟨Nat.le_of_ble_eq_true rfl, Nat.le_of_ble_eq_true rfl⟩) ⟨PC_.blind, (by rw [← hb9]; exact bw_recv (X := []) (Y := []) hK hP), lw_pre (X := []) (Y := []) hF hK hP hD hS hA⟩ rfl rfl hl.1 rfl (lv_room (Nat.le_of_ble_eq_true rfl)) dL_distance_3 ⟨(adc_r1 hM), (adc_s1 hM)⟩) hK hP hD hS hA (fun b_1 H locs hpo hP hD hK hS => ?_) (fun E9 ce q9 b_1 H locs hE hP hD hK hS hce hvm hcl => ?_)
  · have hM : FF9 = (adc (0 + 3) (0 + 18) (if y3.1 = 0 then (y3.2.1, (T_X10_distance M y3), 0, 0) else (if y3.1 = 2 then ((-1001), (T_X10_distance M y3), 0, 0) else ((-1002), (T_X10_distance M y3), 0, 0)))) := hM.trans (adc_adc _ _ _ _ _)
    obtain ⟨hst, hM9_1, hb9_1, hBL_1⟩ := hpo
    rw [if_pos hst] at hM
    have hXI_1 : XI Bd (T_X10_distance M y3) := by rw [← hy_1]; exact xt_T_X10_distance hXI (show Bd ≤ 900000 from (by have h9 := (show Bd ≤ 900000 from (by have z0 := hBd; omega)); omega)) a1 a2
    have hM9_1 : b_1.2.2.2 = (T_X10_distance M y3) := hM9_1
    have hP : va_P D vwCl ([] ++ BWW ad b_1) H := hP
    have hD : va_D A ([] ++ BWW ad b_1) := hD
    have hK : va_K D vwCl ([] ++ BWT b_1) s := hK
    refine W.eq (g2 := F0 m 6 ls [.int y3.2.1]) rfl ?_
    refine W.widen (k := (FF9).2.2.1) (n := (FF9).2.2.2) (Nat.le_of_eq (by rw [hM]; first | done | rfl)) (Nat.le_of_eq (by rw [hM]; first | done | rfl)) ?_
    exact W.iret (v := y3.2.1) hx hb hr (lw_ret (X := []) (Y := []) b_1 hP hD hK hS (by rw [hM]; first | done | rfl) ⟨(by rw [hM]; exact hM9_1), hb9_1, hBL_1, (by rw [hM]; exact XI.mono hXI_1 (show Bd ≤ Bd + 0 from (by have z0 := hBd; omega)))⟩) hS.2.2 dL_distance_6
  · rcases hE with ⟨rfl, hst, hM9_1, hb9_1, hBL_1⟩ | ⟨rfl, hst, hM9_1, hb9_1, hBL_1⟩
    · have hM : FF9 = (adc (0 + 3) (0 + 18) (if y3.1 = 0 then (y3.2.1, (T_X10_distance M y3), 0, 0) else (if y3.1 = 2 then ((-1001), (T_X10_distance M y3), 0, 0) else ((-1002), (T_X10_distance M y3), 0, 0)))) := hM.trans (adc_adc _ _ _ _ _)
      rw [if_neg (show ¬ y3.1 = 0 from by rw [hst]; decide)] at hM
      rw [if_pos hst] at hM
      have hXI_1 : XI Bd (T_X10_distance M y3) := by rw [← hy_1]; exact xt_T_X10_distance hXI (show Bd ≤ 900000 from (by have h9 := (show Bd ≤ 900000 from (by have z0 := hBd; omega)); omega)) a1 a2
      have hM9_1 : b_1.2.2.2 = (T_X10_distance M y3) := hM9_1
      have hP : va_P D vwCl ([] ++ BWW ad b_1) H := hP
      have hD : va_D A ([] ++ BWW ad b_1) := hD
      have hK : va_K D vwCl ([] ++ BWT b_1) s := hK
      refine vx_catch (own := RL) (name := "java/lang/IndexOutOfBoundsException") (E := "java/lang/IndexOutOfBoundsException") hown [] (⟨0, 6, 7, 36⟩ : ExceptionTableEntry) [(⟨0, 6, 12, 43⟩ : ExceptionTableEntry)] (htb.trans rfl) (fun z hz => by cases hz) (by decide) (by decide) (hts (.classLink RL 36 "java/lang/IndexOutOfBoundsException") (List.mem_of_getElem? (i := 1) (by decide +kernel))) (fxk_ hF "java/lang/IndexOutOfBoundsException" "java/lang/IndexOutOfBoundsException") hce hvm hcl ?_
      refine W.eq (g2 := F0 m 7 ls [.ref q9]) rfl ?_
      refine lv_astore_n (lv' := [(3, .ref q9), (0, .ref a0), (1, .int a1), (2, .int a2)]) hx hb dL_distance_7 rfl hl (by decide) rfl (fun ls hl => ?_)
      refine lv_sipush (v := (-1001)) hx hb dL_distance_8 (by decide +kernel) ?_
      refine W.widen (k := (FF9).2.2.1) (n := (FF9).2.2.2) (Nat.le_of_eq (by rw [hM]; first | done | rfl)) (Nat.le_of_eq (by rw [hM]; first | done | rfl)) ?_
      exact W.iret (v := (-1001)) hx hb hr (lw_ret (X := []) (Y := []) b_1 hP hD hK hS (by rw [hM]; first | done | rfl) ⟨(by rw [hM]; exact hM9_1), hb9_1, hBL_1, (by rw [hM]; exact XI.mono hXI_1 (show Bd ≤ Bd + 0 from (by have z0 := hBd; omega)))⟩) hS.2.2 dL_distance_11
    · have hM : FF9 = (adc (0 + 3) (0 + 18) (if y3.1 = 0 then (y3.2.1, (T_X10_distance M y3), 0, 0) else (if y3.1 = 2 then ((-1001), (T_X10_distance M y3), 0, 0) else ((-1002), (T_X10_distance M y3), 0, 0)))) := hM.trans (adc_adc _ _ _ _ _)
      rw [if_neg (show ¬ y3.1 = 0 from by rw [hst]; decide)] at hM
      rw [if_neg (show ¬ y3.1 = 2 from by rw [hst]; decide)] at hM
      have hXI_1 : XI Bd (T_X10_distance M y3) := by rw [← hy_1]; exact xt_T_X10_distance hXI (show Bd ≤ 900000 from (by have h9 := (show Bd ≤ 900000 from (by have z0 := hBd; omega)); omega)) a1 a2
      have hM9_1 : b_1.2.2.2 = (T_X10_distance M y3) := hM9_1
      have hP : va_P D vwCl ([] ++ BWW ad b_1) H := hP
      have hD : va_D A ([] ++ BWW ad b_1) := hD
      have hK : va_K D vwCl ([] ++ BWT b_1) s := hK
      refine vx_catch (own := RL) (name := "java/util/NoSuchElementException") (E := "java/util/NoSuchElementException") hown [(⟨0, 6, 7, 36⟩ : ExceptionTableEntry)] (⟨0, 6, 12, 43⟩ : ExceptionTableEntry) [] (htb.trans rfl) (List.forall_mem_cons.mpr ⟨(Or.inr ⟨by decide, "java/lang/IndexOutOfBoundsException", (hts (.classLink RL 36 "java/lang/IndexOutOfBoundsException") (List.mem_of_getElem? (i := 1) (by decide +kernel))), fxd_ hF "java/util/NoSuchElementException" "java/lang/IndexOutOfBoundsException"⟩), (fun z hz => absurd hz List.not_mem_nil)⟩) (by decide) (by decide) (fxl_ hF (43, "java/util/NoSuchElementException")) (fxk_ hF "java/util/NoSuchElementException" "java/util/NoSuchElementException") hce hvm hcl ?_
      refine W.eq (g2 := F0 m 12 ls [.ref q9]) rfl ?_
      refine lv_astore_n (lv' := [(3, .ref q9), (0, .ref a0), (1, .int a1), (2, .int a2)]) hx hb dL_distance_12 rfl hl (by decide) rfl (fun ls hl => ?_)
      refine lv_sipush (v := (-1002)) hx hb dL_distance_13 (by decide +kernel) ?_
      refine W.widen (k := (FF9).2.2.1) (n := (FF9).2.2.2) (Nat.le_of_eq (by rw [hM]; first | done | rfl)) (Nat.le_of_eq (by rw [hM]; first | done | rfl)) ?_
      exact W.iret (v := (-1002)) hx hb hr (lw_ret (X := []) (Y := []) b_1 hP hD hK hS (by rw [hM]; first | done | rfl) ⟨(by rw [hM]; exact hM9_1), hb9_1, hBL_1, (by rw [hM]; exact XI.mono hXI_1 (show Bd ≤ Bd + 0 from (by have z0 := hBd; omega)))⟩) hS.2.2 dL_distance_16
def K_L_distanceAgain_3 (M : MS) (y3 : Nat × Int32 × (Nat → Int32) × (Nat → Int32)) : Int32 × MS × Nat × Nat := (adc 3 18 (if y3.1 = 0 then (y3.2.1, (T_X10_distanceAgain M y3), 0, 0) else (if y3.1 = 2 then ((-1001), (T_X10_distanceAgain M y3), 0, 0) else ((-1002), (T_X10_distanceAgain M y3), 0, 0))))
def F_L_distanceAgain (M : MS) (a1 : Int32) (a2 : Int32) : Int32 × MS × Nat × Nat := (K_L_distanceAgain_3 M (FF_X10_distanceAgain M a1 a2))
set_option maxHeartbeats 4000000 in
set_option maxRecDepth 100000 in
theorem bl_L_distanceAgain (l : Launch) (hl0 : l.stackTraces = false) (D : va_G) (ad : Nat → Nat) (sz : Nat) (b : BX) (hBL : BL_ b) (a0 : Nat) (hb9 : b.1 79 = a0) (M : MS) (hM9 : b.2.2.2 = M) (Bd : Nat) (hXI : XI Bd M) (hBd : Bd + 0 ≤ 900000) (a1 : Int32) (a2 : Int32) : Met l yL_distanceAgain wsL_distanceAgain ({ frames := 8, cells := (F_L_distanceAgain M a1 a2).2.2.1, slots := (F_L_distanceAgain M a1 a2).2.2.2, locals := 169 }) (PC_ D ad (BWW ad b) (BWT b) sz [.ref a0, .int a1, .int a2]) (QB_ D (fun _ : BX => some (.int (F_L_distanceAgain M a1 a2).1)) (fun b' => b'.2.2.2 = (F_L_distanceAgain M a1 a2).2.1 ∧ b'.1 79 = a0 ∧ BL_ b' ∧ XI (Bd + 0) (F_L_distanceAgain M a1 a2).2.1) (BWW ad) BWT (va_A (BWW ad b) sz)) (F_L_distanceAgain M a1 a2).2.2.1 (F_L_distanceAgain M a1 a2).2.2.2 (va_A (BWW ad b) sz) := by
  refine va_MetW (cc := cL_distanceAgain) (maxL := 4) (ret := (some .int)) (by decide) rfl ?_
  intro p e s m args below meth c s₁ B hml hv
  obtain ⟨rfl, hsz, hP, hK, hD0, hF⟩ := hv
  have hx := B.exec
  have hb := B.bytes
  have hr := B.returns
  have hts := atoms_spec (ws := wsL_distanceAgain) B.pre
  have hown : s.vm.findClass RL = some m.cls := findClass_of_methodNamed B.named
  have hlocks := B.notSynchronized
  have htb := vx_table (x := yL_distanceAgain) B (hts _ (List.mem_cons_self))
  subst hsz
  have hD := hD0.self (sz := s.heap.size)
  generalize hAe : va_A (BWW ad b) s.heap.size = A at hD hF ⊢
  have hA : ∀ q : Nat, s.heap.size ≤ q → A q := fun q h => by rw [← hAe]; exact Or.inr h
  obtain ⟨H, hHe⟩ : ∃ H : Heap, H = s.heap := ⟨_, rfl⟩
  have hS : va_S A s.heap H [] := by rw [hHe]; exact va_S.rf
  have hP : va_P D vwCl ([] ++ BWW ad b) H := by rw [hHe]; exact hP
  have hD : va_D A ([] ++ BWW ad b) := hD
  have hK : va_K D vwCl ([] ++ BWT b) s := hK
  rw [← hHe]
  have hl := lv_entry [.ref a0, .int a1, .int a2] (n := 4) (Nat.le_of_ble_eq_true rfl)
  rw [lg_entry_eq]
  generalize (lg_sl [.ref a0, .int a1, .int a2] ++ List.replicate (4 - (lg_sl [.ref a0, .int a1, .int a2]).length) Slot.unset).toArray = ls at hl ⊢
  have hl : lv_has ls 4 [(0, .ref a0), (1, .int a1), (2, .int a2)] := hl
  generalize hF9 : F_L_distanceAgain M a1 a2 = FF9
  have hM : FF9 = (adc 0 0 (K_L_distanceAgain_3 M (FF_X10_distanceAgain M a1 a2))) := hF9.symm.trans (adc_0 _).symm
  refine lv_aload_n hx hb dL_distanceAgain_0 rfl (lv_at hl 0 rfl) ?_
  refine lv_iload_n hx hb dL_distanceAgain_1 rfl (lv_at hl 1 rfl) ?_
  refine lv_iload_n hx hb dL_distanceAgain_2 rfl (lv_at hl 2 rfl) ?_
  have hcon := (b_X10_distanceAgain l hl0 D ad H.size b hBL a1 a2 (by rw [hM9]; exact xh_X10_distanceAgain hXI (show Bd ≤ 900000 from (by have h9 := (show Bd ≤ 900000 from (by have z0 := hBd; omega)); omega)) a1 a2))
  rw [hM9, hb9] at hcon
  generalize hy_1 : (FF_X10_distanceAgain M a1 a2) = y3 at hcon hM
  have hM : FF9 = (adc 0 0 (adc 3 18 (if y3.1 = 0 then (y3.2.1, (T_X10_distanceAgain M y3), 0, 0) else (if y3.1 = 2 then ((-1001), (T_X10_distanceAgain M y3), 0, 0) else ((-1002), (T_X10_distanceAgain M y3), 0, 0))))) := hM
  refine kzwb_ [] [] (vx_runV (As := [.int a1, .int a2]) (rest := []) ⟨hx, hb, hml, hown, hts⟩ hcon (cwV 2 hts gL_distanceAgain_X10_distanceAgain rfl rfl rfl (by decide +kernel) ⟨Nat.le_of_ble_eq_true rfl, Nat.le_of_ble_eq_true rfl⟩) ⟨PC_.blind, (by rw [← hb9]; exact bw_recv (X := []) (Y := []) hK hP), lw_pre (X := []) (Y := []) hF hK hP hD hS hA⟩ rfl rfl hl.1 rfl (lv_room (Nat.le_of_ble_eq_true rfl)) dL_distanceAgain_3 ⟨(adc_r1 hM), (adc_s1 hM)⟩) hK hP hD hS hA (fun b_1 H locs hpo hP hD hK hS => ?_) (fun E9 ce q9 b_1 H locs hE hP hD hK hS hce hvm hcl => ?_)
  · have hM : FF9 = (adc (0 + 3) (0 + 18) (if y3.1 = 0 then (y3.2.1, (T_X10_distanceAgain M y3), 0, 0) else (if y3.1 = 2 then ((-1001), (T_X10_distanceAgain M y3), 0, 0) else ((-1002), (T_X10_distanceAgain M y3), 0, 0)))) := hM.trans (adc_adc _ _ _ _ _)
    obtain ⟨hst, hM9_1, hb9_1, hBL_1⟩ := hpo
    rw [if_pos hst] at hM
    have hXI_1 : XI Bd (T_X10_distanceAgain M y3) := by rw [← hy_1]; exact xt_T_X10_distanceAgain hXI (show Bd ≤ 900000 from (by have h9 := (show Bd ≤ 900000 from (by have z0 := hBd; omega)); omega)) a1 a2
    have hM9_1 : b_1.2.2.2 = (T_X10_distanceAgain M y3) := hM9_1
    have hP : va_P D vwCl ([] ++ BWW ad b_1) H := hP
    have hD : va_D A ([] ++ BWW ad b_1) := hD
    have hK : va_K D vwCl ([] ++ BWT b_1) s := hK
    refine W.eq (g2 := F0 m 6 ls [.int y3.2.1]) rfl ?_
    refine W.widen (k := (FF9).2.2.1) (n := (FF9).2.2.2) (Nat.le_of_eq (by rw [hM]; first | done | rfl)) (Nat.le_of_eq (by rw [hM]; first | done | rfl)) ?_
    exact W.iret (v := y3.2.1) hx hb hr (lw_ret (X := []) (Y := []) b_1 hP hD hK hS (by rw [hM]; first | done | rfl) ⟨(by rw [hM]; exact hM9_1), hb9_1, hBL_1, (by rw [hM]; exact XI.mono hXI_1 (show Bd ≤ Bd + 0 from (by have z0 := hBd; omega)))⟩) hS.2.2 dL_distanceAgain_6
  · rcases hE with ⟨rfl, hst, hM9_1, hb9_1, hBL_1⟩ | ⟨rfl, hst, hM9_1, hb9_1, hBL_1⟩
    · have hM : FF9 = (adc (0 + 3) (0 + 18) (if y3.1 = 0 then (y3.2.1, (T_X10_distanceAgain M y3), 0, 0) else (if y3.1 = 2 then ((-1001), (T_X10_distanceAgain M y3), 0, 0) else ((-1002), (T_X10_distanceAgain M y3), 0, 0)))) := hM.trans (adc_adc _ _ _ _ _)
      rw [if_neg (show ¬ y3.1 = 0 from by rw [hst]; decide)] at hM
      rw [if_pos hst] at hM
      have hXI_1 : XI Bd (T_X10_distanceAgain M y3) := by rw [← hy_1]; exact xt_T_X10_distanceAgain hXI (show Bd ≤ 900000 from (by have h9 := (show Bd ≤ 900000 from (by have z0 := hBd; omega)); omega)) a1 a2
      have hM9_1 : b_1.2.2.2 = (T_X10_distanceAgain M y3) := hM9_1
      have hP : va_P D vwCl ([] ++ BWW ad b_1) H := hP
      have hD : va_D A ([] ++ BWW ad b_1) := hD
      have hK : va_K D vwCl ([] ++ BWT b_1) s := hK
      refine vx_catch (own := RL) (name := "java/lang/IndexOutOfBoundsException") (E := "java/lang/IndexOutOfBoundsException") hown [] (⟨0, 6, 7, 36⟩ : ExceptionTableEntry) [(⟨0, 6, 12, 43⟩ : ExceptionTableEntry)] (htb.trans rfl) (fun z hz => by cases hz) (by decide) (by decide) (hts (.classLink RL 36 "java/lang/IndexOutOfBoundsException") (List.mem_of_getElem? (i := 1) (by decide +kernel))) (fxk_ hF "java/lang/IndexOutOfBoundsException" "java/lang/IndexOutOfBoundsException") hce hvm hcl ?_
      refine W.eq (g2 := F0 m 7 ls [.ref q9]) rfl ?_
      refine lv_astore_n (lv' := [(3, .ref q9), (0, .ref a0), (1, .int a1), (2, .int a2)]) hx hb dL_distanceAgain_7 rfl hl (by decide) rfl (fun ls hl => ?_)
      refine lv_sipush (v := (-1001)) hx hb dL_distanceAgain_8 (by decide +kernel) ?_
      refine W.widen (k := (FF9).2.2.1) (n := (FF9).2.2.2) (Nat.le_of_eq (by rw [hM]; first | done | rfl)) (Nat.le_of_eq (by rw [hM]; first | done | rfl)) ?_
      exact W.iret (v := (-1001)) hx hb hr (lw_ret (X := []) (Y := []) b_1 hP hD hK hS (by rw [hM]; first | done | rfl) ⟨(by rw [hM]; exact hM9_1), hb9_1, hBL_1, (by rw [hM]; exact XI.mono hXI_1 (show Bd ≤ Bd + 0 from (by have z0 := hBd; omega)))⟩) hS.2.2 dL_distanceAgain_11
    · have hM : FF9 = (adc (0 + 3) (0 + 18) (if y3.1 = 0 then (y3.2.1, (T_X10_distanceAgain M y3), 0, 0) else (if y3.1 = 2 then ((-1001), (T_X10_distanceAgain M y3), 0, 0) else ((-1002), (T_X10_distanceAgain M y3), 0, 0)))) := hM.trans (adc_adc _ _ _ _ _)
      rw [if_neg (show ¬ y3.1 = 0 from by rw [hst]; decide)] at hM
      rw [if_neg (show ¬ y3.1 = 2 from by rw [hst]; decide)] at hM
      have hXI_1 : XI Bd (T_X10_distanceAgain M y3) := by rw [← hy_1]; exact xt_T_X10_distanceAgain hXI (show Bd ≤ 900000 from (by have h9 := (show Bd ≤ 900000 from (by have z0 := hBd; omega)); omega)) a1 a2
      have hM9_1 : b_1.2.2.2 = (T_X10_distanceAgain M y3) := hM9_1
      have hP : va_P D vwCl ([] ++ BWW ad b_1) H := hP
      have hD : va_D A ([] ++ BWW ad b_1) := hD
      have hK : va_K D vwCl ([] ++ BWT b_1) s := hK
      refine vx_catch (own := RL) (name := "java/util/NoSuchElementException") (E := "java/util/NoSuchElementException") hown [(⟨0, 6, 7, 36⟩ : ExceptionTableEntry)] (⟨0, 6, 12, 43⟩ : ExceptionTableEntry) [] (htb.trans rfl) (List.forall_mem_cons.mpr ⟨(Or.inr ⟨by decide, "java/lang/IndexOutOfBoundsException", (hts (.classLink RL 36 "java/lang/IndexOutOfBoundsException") (List.mem_of_getElem? (i := 1) (by decide +kernel))), fxd_ hF "java/util/NoSuchElementException" "java/lang/IndexOutOfBoundsException"⟩), (fun z hz => absurd hz List.not_mem_nil)⟩) (by decide) (by decide) (fxl_ hF (43, "java/util/NoSuchElementException")) (fxk_ hF "java/util/NoSuchElementException" "java/util/NoSuchElementException") hce hvm hcl ?_
      refine W.eq (g2 := F0 m 12 ls [.ref q9]) rfl ?_
      refine lv_astore_n (lv' := [(3, .ref q9), (0, .ref a0), (1, .int a1), (2, .int a2)]) hx hb dL_distanceAgain_12 rfl hl (by decide) rfl (fun ls hl => ?_)
      refine lv_sipush (v := (-1002)) hx hb dL_distanceAgain_13 (by decide +kernel) ?_
      refine W.widen (k := (FF9).2.2.1) (n := (FF9).2.2.2) (Nat.le_of_eq (by rw [hM]; first | done | rfl)) (Nat.le_of_eq (by rw [hM]; first | done | rfl)) ?_
      exact W.iret (v := (-1002)) hx hb hr (lw_ret (X := []) (Y := []) b_1 hP hD hK hS (by rw [hM]; first | done | rfl) ⟨(by rw [hM]; exact hM9_1), hb9_1, hBL_1, (by rw [hM]; exact XI.mono hXI_1 (show Bd ≤ Bd + 0 from (by have z0 := hBd; omega)))⟩) hS.2.2 dL_distanceAgain_16
def K_L_next_3 (M : MS) (y3 : Nat × Int32 × (Nat → Int32) × (Nat → Int32)) : Int32 × MS × Nat × Nat := (adc 3 18 (if y3.1 = 0 then (y3.2.1, (T_X10_next M y3), 0, 0) else (if y3.1 = 2 then ((-1001), (T_X10_next M y3), 0, 0) else ((-1002), (T_X10_next M y3), 0, 0))))
def F_L_next (M : MS) (a1 : Int32) (a2 : Int32) : Int32 × MS × Nat × Nat := (K_L_next_3 M (FF_X10_next M a1 a2))
set_option maxHeartbeats 4000000 in
set_option maxRecDepth 100000 in
theorem bl_L_next (l : Launch) (hl0 : l.stackTraces = false) (D : va_G) (ad : Nat → Nat) (sz : Nat) (b : BX) (hBL : BL_ b) (a0 : Nat) (hb9 : b.1 79 = a0) (M : MS) (hM9 : b.2.2.2 = M) (Bd : Nat) (hXI : XI Bd M) (hBd : Bd + 0 ≤ 900000) (a1 : Int32) (a2 : Int32) : Met l yL_next wsL_next ({ frames := 8, cells := (F_L_next M a1 a2).2.2.1, slots := (F_L_next M a1 a2).2.2.2, locals := 194 }) (PC_ D ad (BWW ad b) (BWT b) sz [.ref a0, .int a1, .int a2]) (QB_ D (fun _ : BX => some (.int (F_L_next M a1 a2).1)) (fun b' => b'.2.2.2 = (F_L_next M a1 a2).2.1 ∧ b'.1 79 = a0 ∧ BL_ b' ∧ XI (Bd + 0) (F_L_next M a1 a2).2.1) (BWW ad) BWT (va_A (BWW ad b) sz)) (F_L_next M a1 a2).2.2.1 (F_L_next M a1 a2).2.2.2 (va_A (BWW ad b) sz) := by
  refine va_MetW (cc := cL_next) (maxL := 4) (ret := (some .int)) (by decide) rfl ?_
  intro p e s m args below meth c s₁ B hml hv
  obtain ⟨rfl, hsz, hP, hK, hD0, hF⟩ := hv
  have hx := B.exec
  have hb := B.bytes
  have hr := B.returns
  have hts := atoms_spec (ws := wsL_next) B.pre
  have hown : s.vm.findClass RL = some m.cls := findClass_of_methodNamed B.named
  have hlocks := B.notSynchronized
  have htb := vx_table (x := yL_next) B (hts _ (List.mem_cons_self))
  subst hsz
  have hD := hD0.self (sz := s.heap.size)
  generalize hAe : va_A (BWW ad b) s.heap.size = A at hD hF ⊢
  have hA : ∀ q : Nat, s.heap.size ≤ q → A q := fun q h => by rw [← hAe]; exact Or.inr h
  obtain ⟨H, hHe⟩ : ∃ H : Heap, H = s.heap := ⟨_, rfl⟩
  have hS : va_S A s.heap H [] := by rw [hHe]; exact va_S.rf
  have hP : va_P D vwCl ([] ++ BWW ad b) H := by rw [hHe]; exact hP
  have hD : va_D A ([] ++ BWW ad b) := hD
  have hK : va_K D vwCl ([] ++ BWT b) s := hK
  rw [← hHe]
  have hl := lv_entry [.ref a0, .int a1, .int a2] (n := 4) (Nat.le_of_ble_eq_true rfl)
  rw [lg_entry_eq]
  generalize (lg_sl [.ref a0, .int a1, .int a2] ++ List.replicate (4 - (lg_sl [.ref a0, .int a1, .int a2]).length) Slot.unset).toArray = ls at hl ⊢
  have hl : lv_has ls 4 [(0, .ref a0), (1, .int a1), (2, .int a2)] := hl
  generalize hF9 : F_L_next M a1 a2 = FF9
  have hM : FF9 = (adc 0 0 (K_L_next_3 M (FF_X10_next M a1 a2))) := hF9.symm.trans (adc_0 _).symm
  refine lv_aload_n hx hb dL_next_0 rfl (lv_at hl 0 rfl) ?_
  refine lv_iload_n hx hb dL_next_1 rfl (lv_at hl 1 rfl) ?_
  refine lv_iload_n hx hb dL_next_2 rfl (lv_at hl 2 rfl) ?_
  have hcon := (b_X10_next l hl0 D ad H.size b hBL a1 a2 (by rw [hM9]; exact xh_X10_next hXI (show Bd ≤ 900000 from (by have h9 := (show Bd ≤ 900000 from (by have z0 := hBd; omega)); omega)) a1 a2))
  rw [hM9, hb9] at hcon
  generalize hy_1 : (FF_X10_next M a1 a2) = y3 at hcon hM
  have hM : FF9 = (adc 0 0 (adc 3 18 (if y3.1 = 0 then (y3.2.1, (T_X10_next M y3), 0, 0) else (if y3.1 = 2 then ((-1001), (T_X10_next M y3), 0, 0) else ((-1002), (T_X10_next M y3), 0, 0))))) := hM
  refine kzwb_ [] [] (vx_runV (As := [.int a1, .int a2]) (rest := []) ⟨hx, hb, hml, hown, hts⟩ hcon (cwV 2 hts gL_next_X10_next rfl rfl rfl (by decide +kernel) ⟨Nat.le_of_ble_eq_true rfl, Nat.le_of_ble_eq_true rfl⟩) ⟨PC_.blind, (by rw [← hb9]; exact bw_recv (X := []) (Y := []) hK hP), lw_pre (X := []) (Y := []) hF hK hP hD hS hA⟩ rfl rfl hl.1 rfl (lv_room (Nat.le_of_ble_eq_true rfl)) dL_next_3 ⟨(adc_r1 hM), (adc_s1 hM)⟩) hK hP hD hS hA (fun b_1 H locs hpo hP hD hK hS => ?_) (fun E9 ce q9 b_1 H locs hE hP hD hK hS hce hvm hcl => ?_)
  · have hM : FF9 = (adc (0 + 3) (0 + 18) (if y3.1 = 0 then (y3.2.1, (T_X10_next M y3), 0, 0) else (if y3.1 = 2 then ((-1001), (T_X10_next M y3), 0, 0) else ((-1002), (T_X10_next M y3), 0, 0)))) := hM.trans (adc_adc _ _ _ _ _)
    obtain ⟨hst, hM9_1, hb9_1, hBL_1⟩ := hpo
    rw [if_pos hst] at hM
    have hXI_1 : XI Bd (T_X10_next M y3) := by rw [← hy_1]; exact xt_T_X10_next hXI (show Bd ≤ 900000 from (by have h9 := (show Bd ≤ 900000 from (by have z0 := hBd; omega)); omega)) a1 a2
    have hM9_1 : b_1.2.2.2 = (T_X10_next M y3) := hM9_1
    have hP : va_P D vwCl ([] ++ BWW ad b_1) H := hP
    have hD : va_D A ([] ++ BWW ad b_1) := hD
    have hK : va_K D vwCl ([] ++ BWT b_1) s := hK
    refine W.eq (g2 := F0 m 6 ls [.int y3.2.1]) rfl ?_
    refine W.widen (k := (FF9).2.2.1) (n := (FF9).2.2.2) (Nat.le_of_eq (by rw [hM]; first | done | rfl)) (Nat.le_of_eq (by rw [hM]; first | done | rfl)) ?_
    exact W.iret (v := y3.2.1) hx hb hr (lw_ret (X := []) (Y := []) b_1 hP hD hK hS (by rw [hM]; first | done | rfl) ⟨(by rw [hM]; exact hM9_1), hb9_1, hBL_1, (by rw [hM]; exact XI.mono hXI_1 (show Bd ≤ Bd + 0 from (by have z0 := hBd; omega)))⟩) hS.2.2 dL_next_6
  · rcases hE with ⟨rfl, hst, hM9_1, hb9_1, hBL_1⟩ | ⟨rfl, hst, hM9_1, hb9_1, hBL_1⟩
    · have hM : FF9 = (adc (0 + 3) (0 + 18) (if y3.1 = 0 then (y3.2.1, (T_X10_next M y3), 0, 0) else (if y3.1 = 2 then ((-1001), (T_X10_next M y3), 0, 0) else ((-1002), (T_X10_next M y3), 0, 0)))) := hM.trans (adc_adc _ _ _ _ _)
      rw [if_neg (show ¬ y3.1 = 0 from by rw [hst]; decide)] at hM
      rw [if_pos hst] at hM
      have hXI_1 : XI Bd (T_X10_next M y3) := by rw [← hy_1]; exact xt_T_X10_next hXI (show Bd ≤ 900000 from (by have h9 := (show Bd ≤ 900000 from (by have z0 := hBd; omega)); omega)) a1 a2
      have hM9_1 : b_1.2.2.2 = (T_X10_next M y3) := hM9_1
      have hP : va_P D vwCl ([] ++ BWW ad b_1) H := hP
      have hD : va_D A ([] ++ BWW ad b_1) := hD
      have hK : va_K D vwCl ([] ++ BWT b_1) s := hK
      refine vx_catch (own := RL) (name := "java/lang/IndexOutOfBoundsException") (E := "java/lang/IndexOutOfBoundsException") hown [] (⟨0, 6, 7, 36⟩ : ExceptionTableEntry) [(⟨0, 6, 12, 43⟩ : ExceptionTableEntry)] (htb.trans rfl) (fun z hz => by cases hz) (by decide) (by decide) (hts (.classLink RL 36 "java/lang/IndexOutOfBoundsException") (List.mem_of_getElem? (i := 1) (by decide +kernel))) (fxk_ hF "java/lang/IndexOutOfBoundsException" "java/lang/IndexOutOfBoundsException") hce hvm hcl ?_
      refine W.eq (g2 := F0 m 7 ls [.ref q9]) rfl ?_
      refine lv_astore_n (lv' := [(3, .ref q9), (0, .ref a0), (1, .int a1), (2, .int a2)]) hx hb dL_next_7 rfl hl (by decide) rfl (fun ls hl => ?_)
      refine lv_sipush (v := (-1001)) hx hb dL_next_8 (by decide +kernel) ?_
      refine W.widen (k := (FF9).2.2.1) (n := (FF9).2.2.2) (Nat.le_of_eq (by rw [hM]; first | done | rfl)) (Nat.le_of_eq (by rw [hM]; first | done | rfl)) ?_
      exact W.iret (v := (-1001)) hx hb hr (lw_ret (X := []) (Y := []) b_1 hP hD hK hS (by rw [hM]; first | done | rfl) ⟨(by rw [hM]; exact hM9_1), hb9_1, hBL_1, (by rw [hM]; exact XI.mono hXI_1 (show Bd ≤ Bd + 0 from (by have z0 := hBd; omega)))⟩) hS.2.2 dL_next_11
    · have hM : FF9 = (adc (0 + 3) (0 + 18) (if y3.1 = 0 then (y3.2.1, (T_X10_next M y3), 0, 0) else (if y3.1 = 2 then ((-1001), (T_X10_next M y3), 0, 0) else ((-1002), (T_X10_next M y3), 0, 0)))) := hM.trans (adc_adc _ _ _ _ _)
      rw [if_neg (show ¬ y3.1 = 0 from by rw [hst]; decide)] at hM
      rw [if_neg (show ¬ y3.1 = 2 from by rw [hst]; decide)] at hM
      have hXI_1 : XI Bd (T_X10_next M y3) := by rw [← hy_1]; exact xt_T_X10_next hXI (show Bd ≤ 900000 from (by have h9 := (show Bd ≤ 900000 from (by have z0 := hBd; omega)); omega)) a1 a2
      have hM9_1 : b_1.2.2.2 = (T_X10_next M y3) := hM9_1
      have hP : va_P D vwCl ([] ++ BWW ad b_1) H := hP
      have hD : va_D A ([] ++ BWW ad b_1) := hD
      have hK : va_K D vwCl ([] ++ BWT b_1) s := hK
      refine vx_catch (own := RL) (name := "java/util/NoSuchElementException") (E := "java/util/NoSuchElementException") hown [(⟨0, 6, 7, 36⟩ : ExceptionTableEntry)] (⟨0, 6, 12, 43⟩ : ExceptionTableEntry) [] (htb.trans rfl) (List.forall_mem_cons.mpr ⟨(Or.inr ⟨by decide, "java/lang/IndexOutOfBoundsException", (hts (.classLink RL 36 "java/lang/IndexOutOfBoundsException") (List.mem_of_getElem? (i := 1) (by decide +kernel))), fxd_ hF "java/util/NoSuchElementException" "java/lang/IndexOutOfBoundsException"⟩), (fun z hz => absurd hz List.not_mem_nil)⟩) (by decide) (by decide) (fxl_ hF (43, "java/util/NoSuchElementException")) (fxk_ hF "java/util/NoSuchElementException" "java/util/NoSuchElementException") hce hvm hcl ?_
      refine W.eq (g2 := F0 m 12 ls [.ref q9]) rfl ?_
      refine lv_astore_n (lv' := [(3, .ref q9), (0, .ref a0), (1, .int a1), (2, .int a2)]) hx hb dL_next_12 rfl hl (by decide) rfl (fun ls hl => ?_)
      refine lv_sipush (v := (-1002)) hx hb dL_next_13 (by decide +kernel) ?_
      refine W.widen (k := (FF9).2.2.1) (n := (FF9).2.2.2) (Nat.le_of_eq (by rw [hM]; first | done | rfl)) (Nat.le_of_eq (by rw [hM]; first | done | rfl)) ?_
      exact W.iret (v := (-1002)) hx hb hr (lw_ret (X := []) (Y := []) b_1 hP hD hK hS (by rw [hM]; first | done | rfl) ⟨(by rw [hM]; exact hM9_1), hb9_1, hBL_1, (by rw [hM]; exact XI.mono hXI_1 (show Bd ≤ Bd + 0 from (by have z0 := hBd; omega)))⟩) hS.2.2 dL_next_16
def K_L_reached_2 (M : MS) (y2 : Nat × Int32 × (Nat → Int32) × (Nat → Int32)) : Int32 × MS × Nat × Nat := (adc 1 6 (if y2.1 = 0 then (y2.2.1, (T_X10_reached M y2), 0, 0) else ((-1001), (T_X10_reached M y2), 0, 0)))
def F_L_reached (M : MS) (a1 : Int32) : Int32 × MS × Nat × Nat := (K_L_reached_2 M (FF_X10_reached M a1))
set_option maxHeartbeats 4000000 in
set_option maxRecDepth 100000 in
theorem bl_L_reached (l : Launch) (hl0 : l.stackTraces = false) (D : va_G) (ad : Nat → Nat) (sz : Nat) (b : BX) (hBL : BL_ b) (a0 : Nat) (hb9 : b.1 79 = a0) (M : MS) (hM9 : b.2.2.2 = M) (Bd : Nat) (hXI : XI Bd M) (hBd : Bd + 0 ≤ 900000) (a1 : Int32) : Met l yL_reached wsL_reached ({ frames := 8, cells := (F_L_reached M a1).2.2.1, slots := (F_L_reached M a1).2.2.2, locals := 170 }) (PC_ D ad (BWW ad b) (BWT b) sz [.ref a0, .int a1]) (QB_ D (fun _ : BX => some (.int (F_L_reached M a1).1)) (fun b' => b'.2.2.2 = (F_L_reached M a1).2.1 ∧ b'.1 79 = a0 ∧ BL_ b' ∧ XI (Bd + 0) (F_L_reached M a1).2.1) (BWW ad) BWT (va_A (BWW ad b) sz)) (F_L_reached M a1).2.2.1 (F_L_reached M a1).2.2.2 (va_A (BWW ad b) sz) := by
  refine va_MetW (cc := cL_reached) (maxL := 3) (ret := (some .int)) (by decide) rfl ?_
  intro p e s m args below meth c s₁ B hml hv
  obtain ⟨rfl, hsz, hP, hK, hD0, hF⟩ := hv
  have hx := B.exec
  have hb := B.bytes
  have hr := B.returns
  have hts := atoms_spec (ws := wsL_reached) B.pre
  have hown : s.vm.findClass RL = some m.cls := findClass_of_methodNamed B.named
  have hlocks := B.notSynchronized
  have htb := vx_table (x := yL_reached) B (hts _ (List.mem_cons_self))
  subst hsz
  have hD := hD0.self (sz := s.heap.size)
  generalize hAe : va_A (BWW ad b) s.heap.size = A at hD hF ⊢
  have hA : ∀ q : Nat, s.heap.size ≤ q → A q := fun q h => by rw [← hAe]; exact Or.inr h
  obtain ⟨H, hHe⟩ : ∃ H : Heap, H = s.heap := ⟨_, rfl⟩
  have hS : va_S A s.heap H [] := by rw [hHe]; exact va_S.rf
  have hP : va_P D vwCl ([] ++ BWW ad b) H := by rw [hHe]; exact hP
  have hD : va_D A ([] ++ BWW ad b) := hD
  have hK : va_K D vwCl ([] ++ BWT b) s := hK
  rw [← hHe]
  have hl := lv_entry [.ref a0, .int a1] (n := 3) (Nat.le_of_ble_eq_true rfl)
  rw [lg_entry_eq]
  generalize (lg_sl [.ref a0, .int a1] ++ List.replicate (3 - (lg_sl [.ref a0, .int a1]).length) Slot.unset).toArray = ls at hl ⊢
  have hl : lv_has ls 3 [(0, .ref a0), (1, .int a1)] := hl
  generalize hF9 : F_L_reached M a1 = FF9
  have hM : FF9 = (adc 0 0 (K_L_reached_2 M (FF_X10_reached M a1))) := hF9.symm.trans (adc_0 _).symm
  refine lv_aload_n hx hb dL_reached_0 rfl (lv_at hl 0 rfl) ?_
  refine lv_iload_n hx hb dL_reached_1 rfl (lv_at hl 1 rfl) ?_
  have hcon := (b_X10_reached l hl0 D ad H.size b hBL a1 (by rw [hM9]; exact xh_X10_reached hXI (show Bd ≤ 900000 from (by have h9 := (show Bd ≤ 900000 from (by have z0 := hBd; omega)); omega)) a1))
  rw [hM9, hb9] at hcon
  generalize hy_1 : (FF_X10_reached M a1) = y2 at hcon hM
  have hM : FF9 = (adc 0 0 (adc 1 6 (if y2.1 = 0 then (y2.2.1, (T_X10_reached M y2), 0, 0) else ((-1001), (T_X10_reached M y2), 0, 0)))) := hM
  refine kzwb_ [] [] (vx_runV (As := [.int a1]) (rest := []) ⟨hx, hb, hml, hown, hts⟩ hcon (cwV 1 hts gL_reached_X10_reached rfl rfl rfl (by decide +kernel) ⟨Nat.le_of_ble_eq_true rfl, Nat.le_of_ble_eq_true rfl⟩) ⟨PC_.blind, (by rw [← hb9]; exact bw_recv (X := []) (Y := []) hK hP), lw_pre (X := []) (Y := []) hF hK hP hD hS hA⟩ rfl rfl hl.1 rfl (lv_room (Nat.le_of_ble_eq_true rfl)) dL_reached_2 ⟨(adc_r1 hM), (adc_s1 hM)⟩) hK hP hD hS hA (fun b_1 H locs hpo hP hD hK hS => ?_) (fun E9 ce q9 b_1 H locs hE hP hD hK hS hce hvm hcl => ?_)
  · have hM : FF9 = (adc (0 + 1) (0 + 6) (if y2.1 = 0 then (y2.2.1, (T_X10_reached M y2), 0, 0) else ((-1001), (T_X10_reached M y2), 0, 0))) := hM.trans (adc_adc _ _ _ _ _)
    obtain ⟨hst, hM9_1, hb9_1, hBL_1⟩ := hpo
    rw [if_pos hst] at hM
    have hXI_1 : XI Bd (T_X10_reached M y2) := by rw [← hy_1]; exact xt_T_X10_reached hXI (show Bd ≤ 900000 from (by have h9 := (show Bd ≤ 900000 from (by have z0 := hBd; omega)); omega)) a1
    have hM9_1 : b_1.2.2.2 = (T_X10_reached M y2) := hM9_1
    have hP : va_P D vwCl ([] ++ BWW ad b_1) H := hP
    have hD : va_D A ([] ++ BWW ad b_1) := hD
    have hK : va_K D vwCl ([] ++ BWT b_1) s := hK
    refine W.eq (g2 := F0 m 5 ls [.int y2.2.1]) rfl ?_
    refine W.widen (k := (FF9).2.2.1) (n := (FF9).2.2.2) (Nat.le_of_eq (by rw [hM]; first | done | rfl)) (Nat.le_of_eq (by rw [hM]; first | done | rfl)) ?_
    exact W.iret (v := y2.2.1) hx hb hr (lw_ret (X := []) (Y := []) b_1 hP hD hK hS (by rw [hM]; first | done | rfl) ⟨(by rw [hM]; exact hM9_1), hb9_1, hBL_1, (by rw [hM]; exact XI.mono hXI_1 (show Bd ≤ Bd + 0 from (by have z0 := hBd; omega)))⟩) hS.2.2 dL_reached_5
  · rcases hE with ⟨rfl, hst, hM9_1, hb9_1, hBL_1⟩
    · have hM : FF9 = (adc (0 + 1) (0 + 6) (if y2.1 = 0 then (y2.2.1, (T_X10_reached M y2), 0, 0) else ((-1001), (T_X10_reached M y2), 0, 0))) := hM.trans (adc_adc _ _ _ _ _)
      rw [if_neg (show ¬ y2.1 = 0 from by rw [hst]; decide)] at hM
      have hXI_1 : XI Bd (T_X10_reached M y2) := by rw [← hy_1]; exact xt_T_X10_reached hXI (show Bd ≤ 900000 from (by have h9 := (show Bd ≤ 900000 from (by have z0 := hBd; omega)); omega)) a1
      have hM9_1 : b_1.2.2.2 = (T_X10_reached M y2) := hM9_1
      have hP : va_P D vwCl ([] ++ BWW ad b_1) H := hP
      have hD : va_D A ([] ++ BWW ad b_1) := hD
      have hK : va_K D vwCl ([] ++ BWT b_1) s := hK
      refine vx_catch (own := RL) (name := "java/lang/IndexOutOfBoundsException") (E := "java/lang/IndexOutOfBoundsException") hown [] (⟨0, 5, 6, 36⟩ : ExceptionTableEntry) [] (htb.trans rfl) (fun z hz => by cases hz) (by decide) (by decide) (hts (.classLink RL 36 "java/lang/IndexOutOfBoundsException") (List.mem_of_getElem? (i := 1) (by decide +kernel))) (fxk_ hF "java/lang/IndexOutOfBoundsException" "java/lang/IndexOutOfBoundsException") hce hvm hcl ?_
      refine W.eq (g2 := F0 m 6 ls [.ref q9]) rfl ?_
      refine lv_astore_n (lv' := [(2, .ref q9), (0, .ref a0), (1, .int a1)]) hx hb dL_reached_6 rfl hl (by decide) rfl (fun ls hl => ?_)
      refine lv_sipush (v := (-1001)) hx hb dL_reached_7 (by decide +kernel) ?_
      refine W.widen (k := (FF9).2.2.1) (n := (FF9).2.2.2) (Nat.le_of_eq (by rw [hM]; first | done | rfl)) (Nat.le_of_eq (by rw [hM]; first | done | rfl)) ?_
      exact W.iret (v := (-1001)) hx hb hr (lw_ret (X := []) (Y := []) b_1 hP hD hK hS (by rw [hM]; first | done | rfl) ⟨(by rw [hM]; exact hM9_1), hb9_1, hBL_1, (by rw [hM]; exact XI.mono hXI_1 (show Bd ≤ Bd + 0 from (by have z0 := hBd; omega)))⟩) hS.2.2 dL_reached_10
def K_L_follow_3 (M : MS) (y3 : Nat × Int32 × (Nat → Int32) × (Nat → Int32)) : Int32 × MS × Nat × Nat := (adc 3 18 (if y3.1 = 0 then (y3.2.1, (T_X10_follow M y3), 0, 0) else (if y3.1 = 2 then ((-1001), (T_X10_follow M y3), 0, 0) else ((-1002), (T_X10_follow M y3), 0, 0))))
def F_L_follow (M : MS) (a1 : Int32) (a2 : Int32) : Int32 × MS × Nat × Nat := (K_L_follow_3 M (FF_X10_follow M a1 a2))
set_option maxHeartbeats 4000000 in
set_option maxRecDepth 100000 in
theorem bl_L_follow (l : Launch) (hl0 : l.stackTraces = false) (D : va_G) (ad : Nat → Nat) (sz : Nat) (b : BX) (hBL : BL_ b) (a0 : Nat) (hb9 : b.1 79 = a0) (M : MS) (hM9 : b.2.2.2 = M) (Bd : Nat) (hXI : XI Bd M) (hBd : Bd + 0 ≤ 900000) (a1 : Int32) (a2 : Int32) : Met l yL_follow wsL_follow ({ frames := 8, cells := (F_L_follow M a1 a2).2.2.1, slots := (F_L_follow M a1 a2).2.2.2, locals := 199 }) (PC_ D ad (BWW ad b) (BWT b) sz [.ref a0, .int a1, .int a2]) (QB_ D (fun _ : BX => some (.int (F_L_follow M a1 a2).1)) (fun b' => b'.2.2.2 = (F_L_follow M a1 a2).2.1 ∧ b'.1 79 = a0 ∧ BL_ b' ∧ XI (Bd + 0) (F_L_follow M a1 a2).2.1) (BWW ad) BWT (va_A (BWW ad b) sz)) (F_L_follow M a1 a2).2.2.1 (F_L_follow M a1 a2).2.2.2 (va_A (BWW ad b) sz) := by
  refine va_MetW (cc := cL_follow) (maxL := 4) (ret := (some .int)) (by decide) rfl ?_
  intro p e s m args below meth c s₁ B hml hv
  obtain ⟨rfl, hsz, hP, hK, hD0, hF⟩ := hv
  have hx := B.exec
  have hb := B.bytes
  have hr := B.returns
  have hts := atoms_spec (ws := wsL_follow) B.pre
  have hown : s.vm.findClass RL = some m.cls := findClass_of_methodNamed B.named
  have hlocks := B.notSynchronized
  have htb := vx_table (x := yL_follow) B (hts _ (List.mem_cons_self))
  subst hsz
  have hD := hD0.self (sz := s.heap.size)
  generalize hAe : va_A (BWW ad b) s.heap.size = A at hD hF ⊢
  have hA : ∀ q : Nat, s.heap.size ≤ q → A q := fun q h => by rw [← hAe]; exact Or.inr h
  obtain ⟨H, hHe⟩ : ∃ H : Heap, H = s.heap := ⟨_, rfl⟩
  have hS : va_S A s.heap H [] := by rw [hHe]; exact va_S.rf
  have hP : va_P D vwCl ([] ++ BWW ad b) H := by rw [hHe]; exact hP
  have hD : va_D A ([] ++ BWW ad b) := hD
  have hK : va_K D vwCl ([] ++ BWT b) s := hK
  rw [← hHe]
  have hl := lv_entry [.ref a0, .int a1, .int a2] (n := 4) (Nat.le_of_ble_eq_true rfl)
  rw [lg_entry_eq]
  generalize (lg_sl [.ref a0, .int a1, .int a2] ++ List.replicate (4 - (lg_sl [.ref a0, .int a1, .int a2]).length) Slot.unset).toArray = ls at hl ⊢
  have hl : lv_has ls 4 [(0, .ref a0), (1, .int a1), (2, .int a2)] := hl
  generalize hF9 : F_L_follow M a1 a2 = FF9
  have hM : FF9 = (adc 0 0 (K_L_follow_3 M (FF_X10_follow M a1 a2))) := hF9.symm.trans (adc_0 _).symm
  refine lv_aload_n hx hb dL_follow_0 rfl (lv_at hl 0 rfl) ?_
  refine lv_iload_n hx hb dL_follow_1 rfl (lv_at hl 1 rfl) ?_
  refine lv_iload_n hx hb dL_follow_2 rfl (lv_at hl 2 rfl) ?_
  have hcon := (b_X10_follow l hl0 D ad H.size b hBL a1 a2 (by rw [hM9]; exact xh_X10_follow hXI (show Bd ≤ 900000 from (by have h9 := (show Bd ≤ 900000 from (by have z0 := hBd; omega)); omega)) a1 a2))
  rw [hM9, hb9] at hcon
  generalize hy_1 : (FF_X10_follow M a1 a2) = y3 at hcon hM
  have hM : FF9 = (adc 0 0 (adc 3 18 (if y3.1 = 0 then (y3.2.1, (T_X10_follow M y3), 0, 0) else (if y3.1 = 2 then ((-1001), (T_X10_follow M y3), 0, 0) else ((-1002), (T_X10_follow M y3), 0, 0))))) := hM
  refine kzwb_ [] [] (vx_runV (As := [.int a1, .int a2]) (rest := []) ⟨hx, hb, hml, hown, hts⟩ hcon (cwV 2 hts gL_follow_X10_follow rfl rfl rfl (by decide +kernel) ⟨Nat.le_of_ble_eq_true rfl, Nat.le_of_ble_eq_true rfl⟩) ⟨PC_.blind, (by rw [← hb9]; exact bw_recv (X := []) (Y := []) hK hP), lw_pre (X := []) (Y := []) hF hK hP hD hS hA⟩ rfl rfl hl.1 rfl (lv_room (Nat.le_of_ble_eq_true rfl)) dL_follow_3 ⟨(adc_r1 hM), (adc_s1 hM)⟩) hK hP hD hS hA (fun b_1 H locs hpo hP hD hK hS => ?_) (fun E9 ce q9 b_1 H locs hE hP hD hK hS hce hvm hcl => ?_)
  · have hM : FF9 = (adc (0 + 3) (0 + 18) (if y3.1 = 0 then (y3.2.1, (T_X10_follow M y3), 0, 0) else (if y3.1 = 2 then ((-1001), (T_X10_follow M y3), 0, 0) else ((-1002), (T_X10_follow M y3), 0, 0)))) := hM.trans (adc_adc _ _ _ _ _)
    obtain ⟨hst, hM9_1, hb9_1, hBL_1⟩ := hpo
    rw [if_pos hst] at hM
    have hXI_1 : XI Bd (T_X10_follow M y3) := by rw [← hy_1]; exact xt_T_X10_follow hXI (show Bd ≤ 900000 from (by have h9 := (show Bd ≤ 900000 from (by have z0 := hBd; omega)); omega)) a1 a2
    have hM9_1 : b_1.2.2.2 = (T_X10_follow M y3) := hM9_1
    have hP : va_P D vwCl ([] ++ BWW ad b_1) H := hP
    have hD : va_D A ([] ++ BWW ad b_1) := hD
    have hK : va_K D vwCl ([] ++ BWT b_1) s := hK
    refine W.eq (g2 := F0 m 6 ls [.int y3.2.1]) rfl ?_
    refine W.widen (k := (FF9).2.2.1) (n := (FF9).2.2.2) (Nat.le_of_eq (by rw [hM]; first | done | rfl)) (Nat.le_of_eq (by rw [hM]; first | done | rfl)) ?_
    exact W.iret (v := y3.2.1) hx hb hr (lw_ret (X := []) (Y := []) b_1 hP hD hK hS (by rw [hM]; first | done | rfl) ⟨(by rw [hM]; exact hM9_1), hb9_1, hBL_1, (by rw [hM]; exact XI.mono hXI_1 (show Bd ≤ Bd + 0 from (by have z0 := hBd; omega)))⟩) hS.2.2 dL_follow_6
  · rcases hE with ⟨rfl, hst, hM9_1, hb9_1, hBL_1⟩ | ⟨rfl, hst, hM9_1, hb9_1, hBL_1⟩
    · have hM : FF9 = (adc (0 + 3) (0 + 18) (if y3.1 = 0 then (y3.2.1, (T_X10_follow M y3), 0, 0) else (if y3.1 = 2 then ((-1001), (T_X10_follow M y3), 0, 0) else ((-1002), (T_X10_follow M y3), 0, 0)))) := hM.trans (adc_adc _ _ _ _ _)
      rw [if_neg (show ¬ y3.1 = 0 from by rw [hst]; decide)] at hM
      rw [if_pos hst] at hM
      have hXI_1 : XI Bd (T_X10_follow M y3) := by rw [← hy_1]; exact xt_T_X10_follow hXI (show Bd ≤ 900000 from (by have h9 := (show Bd ≤ 900000 from (by have z0 := hBd; omega)); omega)) a1 a2
      have hM9_1 : b_1.2.2.2 = (T_X10_follow M y3) := hM9_1
      have hP : va_P D vwCl ([] ++ BWW ad b_1) H := hP
      have hD : va_D A ([] ++ BWW ad b_1) := hD
      have hK : va_K D vwCl ([] ++ BWT b_1) s := hK
      refine vx_catch (own := RL) (name := "java/lang/IndexOutOfBoundsException") (E := "java/lang/IndexOutOfBoundsException") hown [] (⟨0, 6, 7, 36⟩ : ExceptionTableEntry) [(⟨0, 6, 12, 43⟩ : ExceptionTableEntry)] (htb.trans rfl) (fun z hz => by cases hz) (by decide) (by decide) (hts (.classLink RL 36 "java/lang/IndexOutOfBoundsException") (List.mem_of_getElem? (i := 1) (by decide +kernel))) (fxk_ hF "java/lang/IndexOutOfBoundsException" "java/lang/IndexOutOfBoundsException") hce hvm hcl ?_
      refine W.eq (g2 := F0 m 7 ls [.ref q9]) rfl ?_
      refine lv_astore_n (lv' := [(3, .ref q9), (0, .ref a0), (1, .int a1), (2, .int a2)]) hx hb dL_follow_7 rfl hl (by decide) rfl (fun ls hl => ?_)
      refine lv_sipush (v := (-1001)) hx hb dL_follow_8 (by decide +kernel) ?_
      refine W.widen (k := (FF9).2.2.1) (n := (FF9).2.2.2) (Nat.le_of_eq (by rw [hM]; first | done | rfl)) (Nat.le_of_eq (by rw [hM]; first | done | rfl)) ?_
      exact W.iret (v := (-1001)) hx hb hr (lw_ret (X := []) (Y := []) b_1 hP hD hK hS (by rw [hM]; first | done | rfl) ⟨(by rw [hM]; exact hM9_1), hb9_1, hBL_1, (by rw [hM]; exact XI.mono hXI_1 (show Bd ≤ Bd + 0 from (by have z0 := hBd; omega)))⟩) hS.2.2 dL_follow_11
    · have hM : FF9 = (adc (0 + 3) (0 + 18) (if y3.1 = 0 then (y3.2.1, (T_X10_follow M y3), 0, 0) else (if y3.1 = 2 then ((-1001), (T_X10_follow M y3), 0, 0) else ((-1002), (T_X10_follow M y3), 0, 0)))) := hM.trans (adc_adc _ _ _ _ _)
      rw [if_neg (show ¬ y3.1 = 0 from by rw [hst]; decide)] at hM
      rw [if_neg (show ¬ y3.1 = 2 from by rw [hst]; decide)] at hM
      have hXI_1 : XI Bd (T_X10_follow M y3) := by rw [← hy_1]; exact xt_T_X10_follow hXI (show Bd ≤ 900000 from (by have h9 := (show Bd ≤ 900000 from (by have z0 := hBd; omega)); omega)) a1 a2
      have hM9_1 : b_1.2.2.2 = (T_X10_follow M y3) := hM9_1
      have hP : va_P D vwCl ([] ++ BWW ad b_1) H := hP
      have hD : va_D A ([] ++ BWW ad b_1) := hD
      have hK : va_K D vwCl ([] ++ BWT b_1) s := hK
      refine vx_catch (own := RL) (name := "java/util/NoSuchElementException") (E := "java/util/NoSuchElementException") hown [(⟨0, 6, 7, 36⟩ : ExceptionTableEntry)] (⟨0, 6, 12, 43⟩ : ExceptionTableEntry) [] (htb.trans rfl) (List.forall_mem_cons.mpr ⟨(Or.inr ⟨by decide, "java/lang/IndexOutOfBoundsException", (hts (.classLink RL 36 "java/lang/IndexOutOfBoundsException") (List.mem_of_getElem? (i := 1) (by decide +kernel))), fxd_ hF "java/util/NoSuchElementException" "java/lang/IndexOutOfBoundsException"⟩), (fun z hz => absurd hz List.not_mem_nil)⟩) (by decide) (by decide) (fxl_ hF (43, "java/util/NoSuchElementException")) (fxk_ hF "java/util/NoSuchElementException" "java/util/NoSuchElementException") hce hvm hcl ?_
      refine W.eq (g2 := F0 m 12 ls [.ref q9]) rfl ?_
      refine lv_astore_n (lv' := [(3, .ref q9), (0, .ref a0), (1, .int a1), (2, .int a2)]) hx hb dL_follow_12 rfl hl (by decide) rfl (fun ls hl => ?_)
      refine lv_sipush (v := (-1002)) hx hb dL_follow_13 (by decide +kernel) ?_
      refine W.widen (k := (FF9).2.2.1) (n := (FF9).2.2.2) (Nat.le_of_eq (by rw [hM]; first | done | rfl)) (Nat.le_of_eq (by rw [hM]; first | done | rfl)) ?_
      exact W.iret (v := (-1002)) hx hb hr (lw_ret (X := []) (Y := []) b_1 hP hD hK hS (by rw [hM]; first | done | rfl) ⟨(by rw [hM]; exact hM9_1), hb9_1, hBL_1, (by rw [hM]; exact XI.mono hXI_1 (show Bd ≤ Bd + 0 from (by have z0 := hBd; omega)))⟩) hS.2.2 dL_follow_16
def K_L_real_3 (M : MS) (y3 : Nat × Int32 × (Nat → Int32) × (Nat → Int32)) : Int32 × MS × Nat × Nat := (adc 3 18 (if y3.1 = 0 then (y3.2.1, (T_X10_real M y3), 0, 0) else (if y3.1 = 2 then ((-1001), (T_X10_real M y3), 0, 0) else ((-1002), (T_X10_real M y3), 0, 0))))
def F_L_real (M : MS) (a1 : Int32) (a2 : Int32) : Int32 × MS × Nat × Nat := (K_L_real_3 M (FF_X10_real M a1 a2))
set_option maxHeartbeats 4000000 in
set_option maxRecDepth 100000 in
theorem bl_L_real (l : Launch) (hl0 : l.stackTraces = false) (D : va_G) (ad : Nat → Nat) (sz : Nat) (b : BX) (hBL : BL_ b) (a0 : Nat) (hb9 : b.1 79 = a0) (M : MS) (hM9 : b.2.2.2 = M) (Bd : Nat) (hXI : XI Bd M) (hBd : Bd + 0 ≤ 900000) (a1 : Int32) (a2 : Int32) : Met l yL_real wsL_real ({ frames := 8, cells := (F_L_real M a1 a2).2.2.1, slots := (F_L_real M a1 a2).2.2.2, locals := 147 }) (PC_ D ad (BWW ad b) (BWT b) sz [.ref a0, .int a1, .int a2]) (QB_ D (fun _ : BX => some (.int (F_L_real M a1 a2).1)) (fun b' => b'.2.2.2 = (F_L_real M a1 a2).2.1 ∧ b'.1 79 = a0 ∧ BL_ b' ∧ XI (Bd + 0) (F_L_real M a1 a2).2.1) (BWW ad) BWT (va_A (BWW ad b) sz)) (F_L_real M a1 a2).2.2.1 (F_L_real M a1 a2).2.2.2 (va_A (BWW ad b) sz) := by
  refine va_MetW (cc := cL_real) (maxL := 4) (ret := (some .int)) (by decide) rfl ?_
  intro p e s m args below meth c s₁ B hml hv
  obtain ⟨rfl, hsz, hP, hK, hD0, hF⟩ := hv
  have hx := B.exec
  have hb := B.bytes
  have hr := B.returns
  have hts := atoms_spec (ws := wsL_real) B.pre
  have hown : s.vm.findClass RL = some m.cls := findClass_of_methodNamed B.named
  have hlocks := B.notSynchronized
  have htb := vx_table (x := yL_real) B (hts _ (List.mem_cons_self))
  subst hsz
  have hD := hD0.self (sz := s.heap.size)
  generalize hAe : va_A (BWW ad b) s.heap.size = A at hD hF ⊢
  have hA : ∀ q : Nat, s.heap.size ≤ q → A q := fun q h => by rw [← hAe]; exact Or.inr h
  obtain ⟨H, hHe⟩ : ∃ H : Heap, H = s.heap := ⟨_, rfl⟩
  have hS : va_S A s.heap H [] := by rw [hHe]; exact va_S.rf
  have hP : va_P D vwCl ([] ++ BWW ad b) H := by rw [hHe]; exact hP
  have hD : va_D A ([] ++ BWW ad b) := hD
  have hK : va_K D vwCl ([] ++ BWT b) s := hK
  rw [← hHe]
  have hl := lv_entry [.ref a0, .int a1, .int a2] (n := 4) (Nat.le_of_ble_eq_true rfl)
  rw [lg_entry_eq]
  generalize (lg_sl [.ref a0, .int a1, .int a2] ++ List.replicate (4 - (lg_sl [.ref a0, .int a1, .int a2]).length) Slot.unset).toArray = ls at hl ⊢
  have hl : lv_has ls 4 [(0, .ref a0), (1, .int a1), (2, .int a2)] := hl
  generalize hF9 : F_L_real M a1 a2 = FF9
  have hM : FF9 = (adc 0 0 (K_L_real_3 M (FF_X10_real M a1 a2))) := hF9.symm.trans (adc_0 _).symm
  refine lv_aload_n hx hb dL_real_0 rfl (lv_at hl 0 rfl) ?_
  refine lv_iload_n hx hb dL_real_1 rfl (lv_at hl 1 rfl) ?_
  refine lv_iload_n hx hb dL_real_2 rfl (lv_at hl 2 rfl) ?_
  have hcon := (b_X10_real l hl0 D ad H.size b hBL a1 a2 (by rw [hM9]; exact xh_X10_real hXI (show Bd ≤ 900000 from (by have h9 := (show Bd ≤ 900000 from (by have z0 := hBd; omega)); omega)) a1 a2))
  rw [hM9, hb9] at hcon
  generalize hy_1 : (FF_X10_real M a1 a2) = y3 at hcon hM
  have hM : FF9 = (adc 0 0 (adc 3 18 (if y3.1 = 0 then (y3.2.1, (T_X10_real M y3), 0, 0) else (if y3.1 = 2 then ((-1001), (T_X10_real M y3), 0, 0) else ((-1002), (T_X10_real M y3), 0, 0))))) := hM
  refine kzwb_ [] [] (vx_runV (As := [.int a1, .int a2]) (rest := []) ⟨hx, hb, hml, hown, hts⟩ hcon (cwV 2 hts gL_real_X10_real rfl rfl rfl (by decide +kernel) ⟨Nat.le_of_ble_eq_true rfl, Nat.le_of_ble_eq_true rfl⟩) ⟨PC_.blind, (by rw [← hb9]; exact bw_recv (X := []) (Y := []) hK hP), lw_pre (X := []) (Y := []) hF hK hP hD hS hA⟩ rfl rfl hl.1 rfl (lv_room (Nat.le_of_ble_eq_true rfl)) dL_real_3 ⟨(adc_r1 hM), (adc_s1 hM)⟩) hK hP hD hS hA (fun b_1 H locs hpo hP hD hK hS => ?_) (fun E9 ce q9 b_1 H locs hE hP hD hK hS hce hvm hcl => ?_)
  · have hM : FF9 = (adc (0 + 3) (0 + 18) (if y3.1 = 0 then (y3.2.1, (T_X10_real M y3), 0, 0) else (if y3.1 = 2 then ((-1001), (T_X10_real M y3), 0, 0) else ((-1002), (T_X10_real M y3), 0, 0)))) := hM.trans (adc_adc _ _ _ _ _)
    obtain ⟨hst, hM9_1, hb9_1, hBL_1⟩ := hpo
    rw [if_pos hst] at hM
    have hXI_1 : XI Bd (T_X10_real M y3) := by rw [← hy_1]; exact xt_T_X10_real hXI (show Bd ≤ 900000 from (by have h9 := (show Bd ≤ 900000 from (by have z0 := hBd; omega)); omega)) a1 a2
    have hM9_1 : b_1.2.2.2 = (T_X10_real M y3) := hM9_1
    have hBL_1 : BL_ b_1 := hBL_1 hBL
    have hP : va_P D vwCl ([] ++ BWW ad b_1) H := hP
    have hD : va_D A ([] ++ BWW ad b_1) := hD
    have hK : va_K D vwCl ([] ++ BWT b_1) s := hK
    refine W.eq (g2 := F0 m 6 ls [.int y3.2.1]) rfl ?_
    refine W.widen (k := (FF9).2.2.1) (n := (FF9).2.2.2) (Nat.le_of_eq (by rw [hM]; first | done | rfl)) (Nat.le_of_eq (by rw [hM]; first | done | rfl)) ?_
    exact W.iret (v := y3.2.1) hx hb hr (lw_ret (X := []) (Y := []) b_1 hP hD hK hS (by rw [hM]; first | done | rfl) ⟨(by rw [hM]; exact hM9_1), hb9_1, hBL_1, (by rw [hM]; exact XI.mono hXI_1 (show Bd ≤ Bd + 0 from (by have z0 := hBd; omega)))⟩) hS.2.2 dL_real_6
  · rcases hE with ⟨rfl, hst, hM9_1, hb9_1, hBL_1⟩ | ⟨rfl, hst, hM9_1, hb9_1, hBL_1⟩
    · have hM : FF9 = (adc (0 + 3) (0 + 18) (if y3.1 = 0 then (y3.2.1, (T_X10_real M y3), 0, 0) else (if y3.1 = 2 then ((-1001), (T_X10_real M y3), 0, 0) else ((-1002), (T_X10_real M y3), 0, 0)))) := hM.trans (adc_adc _ _ _ _ _)
      rw [if_neg (show ¬ y3.1 = 0 from by rw [hst]; decide)] at hM
      rw [if_pos hst] at hM
      have hXI_1 : XI Bd (T_X10_real M y3) := by rw [← hy_1]; exact xt_T_X10_real hXI (show Bd ≤ 900000 from (by have h9 := (show Bd ≤ 900000 from (by have z0 := hBd; omega)); omega)) a1 a2
      have hM9_1 : b_1.2.2.2 = (T_X10_real M y3) := hM9_1
      have hBL_1 : BL_ b_1 := hBL_1 hBL
      have hP : va_P D vwCl ([] ++ BWW ad b_1) H := hP
      have hD : va_D A ([] ++ BWW ad b_1) := hD
      have hK : va_K D vwCl ([] ++ BWT b_1) s := hK
      refine vx_catch (own := RL) (name := "java/lang/IndexOutOfBoundsException") (E := "java/lang/IndexOutOfBoundsException") hown [] (⟨0, 6, 7, 36⟩ : ExceptionTableEntry) [(⟨0, 6, 12, 43⟩ : ExceptionTableEntry)] (htb.trans rfl) (fun z hz => by cases hz) (by decide) (by decide) (hts (.classLink RL 36 "java/lang/IndexOutOfBoundsException") (List.mem_of_getElem? (i := 1) (by decide +kernel))) (fxk_ hF "java/lang/IndexOutOfBoundsException" "java/lang/IndexOutOfBoundsException") hce hvm hcl ?_
      refine W.eq (g2 := F0 m 7 ls [.ref q9]) rfl ?_
      refine lv_astore_n (lv' := [(3, .ref q9), (0, .ref a0), (1, .int a1), (2, .int a2)]) hx hb dL_real_7 rfl hl (by decide) rfl (fun ls hl => ?_)
      refine lv_sipush (v := (-1001)) hx hb dL_real_8 (by decide +kernel) ?_
      refine W.widen (k := (FF9).2.2.1) (n := (FF9).2.2.2) (Nat.le_of_eq (by rw [hM]; first | done | rfl)) (Nat.le_of_eq (by rw [hM]; first | done | rfl)) ?_
      exact W.iret (v := (-1001)) hx hb hr (lw_ret (X := []) (Y := []) b_1 hP hD hK hS (by rw [hM]; first | done | rfl) ⟨(by rw [hM]; exact hM9_1), hb9_1, hBL_1, (by rw [hM]; exact XI.mono hXI_1 (show Bd ≤ Bd + 0 from (by have z0 := hBd; omega)))⟩) hS.2.2 dL_real_11
    · have hM : FF9 = (adc (0 + 3) (0 + 18) (if y3.1 = 0 then (y3.2.1, (T_X10_real M y3), 0, 0) else (if y3.1 = 2 then ((-1001), (T_X10_real M y3), 0, 0) else ((-1002), (T_X10_real M y3), 0, 0)))) := hM.trans (adc_adc _ _ _ _ _)
      rw [if_neg (show ¬ y3.1 = 0 from by rw [hst]; decide)] at hM
      rw [if_neg (show ¬ y3.1 = 2 from by rw [hst]; decide)] at hM
      have hXI_1 : XI Bd (T_X10_real M y3) := by rw [← hy_1]; exact xt_T_X10_real hXI (show Bd ≤ 900000 from (by have h9 := (show Bd ≤ 900000 from (by have z0 := hBd; omega)); omega)) a1 a2
      have hM9_1 : b_1.2.2.2 = (T_X10_real M y3) := hM9_1
      have hBL_1 : BL_ b_1 := hBL_1 hBL
      have hP : va_P D vwCl ([] ++ BWW ad b_1) H := hP
      have hD : va_D A ([] ++ BWW ad b_1) := hD
      have hK : va_K D vwCl ([] ++ BWT b_1) s := hK
      refine vx_catch (own := RL) (name := "java/util/NoSuchElementException") (E := "java/util/NoSuchElementException") hown [(⟨0, 6, 7, 36⟩ : ExceptionTableEntry)] (⟨0, 6, 12, 43⟩ : ExceptionTableEntry) [] (htb.trans rfl) (List.forall_mem_cons.mpr ⟨(Or.inr ⟨by decide, "java/lang/IndexOutOfBoundsException", (hts (.classLink RL 36 "java/lang/IndexOutOfBoundsException") (List.mem_of_getElem? (i := 1) (by decide +kernel))), fxd_ hF "java/util/NoSuchElementException" "java/lang/IndexOutOfBoundsException"⟩), (fun z hz => absurd hz List.not_mem_nil)⟩) (by decide) (by decide) (fxl_ hF (43, "java/util/NoSuchElementException")) (fxk_ hF "java/util/NoSuchElementException" "java/util/NoSuchElementException") hce hvm hcl ?_
      refine W.eq (g2 := F0 m 12 ls [.ref q9]) rfl ?_
      refine lv_astore_n (lv' := [(3, .ref q9), (0, .ref a0), (1, .int a1), (2, .int a2)]) hx hb dL_real_12 rfl hl (by decide) rfl (fun ls hl => ?_)
      refine lv_sipush (v := (-1002)) hx hb dL_real_13 (by decide +kernel) ?_
      refine W.widen (k := (FF9).2.2.1) (n := (FF9).2.2.2) (Nat.le_of_eq (by rw [hM]; first | done | rfl)) (Nat.le_of_eq (by rw [hM]; first | done | rfl)) ?_
      exact W.iret (v := (-1002)) hx hb hr (lw_ret (X := []) (Y := []) b_1 hP hD hK hS (by rw [hM]; first | done | rfl) ⟨(by rw [hM]; exact hM9_1), hb9_1, hBL_1, (by rw [hM]; exact XI.mono hXI_1 (show Bd ≤ Bd + 0 from (by have z0 := hBd; omega)))⟩) hS.2.2 dL_real_16
def K_L_right_2 (M : MS) (y2 : Nat × Int32 × (Nat → Int32) × (Nat → Int32)) : Int32 × MS × Nat × Nat := (adc 2 12 (if y2.1 = 0 then (if y2.2.1 = 0 then (0, (T_X10_isRight M y2), 0, 0) else (1, (T_X10_isRight M y2), 0, 0)) else ((-1001), (T_X10_isRight M y2), 0, 0)))
def F_L_right (M : MS) (a1 : Int32) : Int32 × MS × Nat × Nat := (K_L_right_2 M (FF_X10_isRight M a1))
set_option maxHeartbeats 4000000 in
set_option maxRecDepth 100000 in
theorem bl_L_right (l : Launch) (hl0 : l.stackTraces = false) (D : va_G) (ad : Nat → Nat) (sz : Nat) (b : BX) (hBL : BL_ b) (a0 : Nat) (hb9 : b.1 79 = a0) (M : MS) (hM9 : b.2.2.2 = M) (Bd : Nat) (hXI : XI Bd M) (hBd : Bd + 0 ≤ 900000) (a1 : Int32) : Met l yL_right wsL_right ({ frames := 8, cells := (F_L_right M a1).2.2.1, slots := (F_L_right M a1).2.2.2, locals := 170 }) (PC_ D ad (BWW ad b) (BWT b) sz [.ref a0, .int a1]) (QB_ D (fun _ : BX => some (.int (F_L_right M a1).1)) (fun b' => b'.2.2.2 = (F_L_right M a1).2.1 ∧ b'.1 79 = a0 ∧ BL_ b' ∧ XI (Bd + 0) (F_L_right M a1).2.1) (BWW ad) BWT (va_A (BWW ad b) sz)) (F_L_right M a1).2.2.1 (F_L_right M a1).2.2.2 (va_A (BWW ad b) sz) := by
  refine va_MetW (cc := cL_right) (maxL := 3) (ret := (some .int)) (by decide) rfl ?_
  intro p e s m args below meth c s₁ B hml hv
  obtain ⟨rfl, hsz, hP, hK, hD0, hF⟩ := hv
  have hx := B.exec
  have hb := B.bytes
  have hr := B.returns
  have hts := atoms_spec (ws := wsL_right) B.pre
  have hown : s.vm.findClass RL = some m.cls := findClass_of_methodNamed B.named
  have hlocks := B.notSynchronized
  have htb := vx_table (x := yL_right) B (hts _ (List.mem_cons_self))
  subst hsz
  have hD := hD0.self (sz := s.heap.size)
  generalize hAe : va_A (BWW ad b) s.heap.size = A at hD hF ⊢
  have hA : ∀ q : Nat, s.heap.size ≤ q → A q := fun q h => by rw [← hAe]; exact Or.inr h
  obtain ⟨H, hHe⟩ : ∃ H : Heap, H = s.heap := ⟨_, rfl⟩
  have hS : va_S A s.heap H [] := by rw [hHe]; exact va_S.rf
  have hP : va_P D vwCl ([] ++ BWW ad b) H := by rw [hHe]; exact hP
  have hD : va_D A ([] ++ BWW ad b) := hD
  have hK : va_K D vwCl ([] ++ BWT b) s := hK
  rw [← hHe]
  have hl := lv_entry [.ref a0, .int a1] (n := 3) (Nat.le_of_ble_eq_true rfl)
  rw [lg_entry_eq]
  generalize (lg_sl [.ref a0, .int a1] ++ List.replicate (3 - (lg_sl [.ref a0, .int a1]).length) Slot.unset).toArray = ls at hl ⊢
  have hl : lv_has ls 3 [(0, .ref a0), (1, .int a1)] := hl
  generalize hF9 : F_L_right M a1 = FF9
  have hM : FF9 = (adc 0 0 (K_L_right_2 M (FF_X10_isRight M a1))) := hF9.symm.trans (adc_0 _).symm
  refine lv_aload_n hx hb dL_right_0 rfl (lv_at hl 0 rfl) ?_
  refine lv_iload_n hx hb dL_right_1 rfl (lv_at hl 1 rfl) ?_
  have hcon := (b_X10_isRight l hl0 D ad H.size b hBL a1 (by rw [hM9]; exact xh_X10_isRight hXI (show Bd ≤ 900000 from (by have h9 := (show Bd ≤ 900000 from (by have z0 := hBd; omega)); omega)) a1))
  rw [hM9, hb9] at hcon
  generalize hy_1 : (FF_X10_isRight M a1) = y2 at hcon hM
  have hM : FF9 = (adc 0 0 (adc 2 12 (if y2.1 = 0 then (if y2.2.1 = 0 then (0, (T_X10_isRight M y2), 0, 0) else (1, (T_X10_isRight M y2), 0, 0)) else ((-1001), (T_X10_isRight M y2), 0, 0)))) := hM
  refine kzwb_ [] [] (vx_runV (As := [.int a1]) (rest := []) ⟨hx, hb, hml, hown, hts⟩ hcon (cwV 1 hts gL_right_X10_isRight rfl rfl rfl (by decide +kernel) ⟨Nat.le_of_ble_eq_true rfl, Nat.le_of_ble_eq_true rfl⟩) ⟨PC_.blind, (by rw [← hb9]; exact bw_recv (X := []) (Y := []) hK hP), lw_pre (X := []) (Y := []) hF hK hP hD hS hA⟩ rfl rfl hl.1 rfl (lv_room (Nat.le_of_ble_eq_true rfl)) dL_right_2 ⟨(adc_r1 hM), (adc_s1 hM)⟩) hK hP hD hS hA (fun b_1 H locs hpo hP hD hK hS => ?_) (fun E9 ce q9 b_1 H locs hE hP hD hK hS hce hvm hcl => ?_)
  · have hM : FF9 = (adc (0 + 2) (0 + 12) (if y2.1 = 0 then (if y2.2.1 = 0 then (0, (T_X10_isRight M y2), 0, 0) else (1, (T_X10_isRight M y2), 0, 0)) else ((-1001), (T_X10_isRight M y2), 0, 0))) := hM.trans (adc_adc _ _ _ _ _)
    obtain ⟨hst, hM9_1, hb9_1, hBL_1⟩ := hpo
    rw [if_pos hst] at hM
    have hXI_1 : XI Bd (T_X10_isRight M y2) := by rw [← hy_1]; exact xt_T_X10_isRight hXI (show Bd ≤ 900000 from (by have h9 := (show Bd ≤ 900000 from (by have z0 := hBd; omega)); omega)) a1
    have hM9_1 : b_1.2.2.2 = (T_X10_isRight M y2) := hM9_1
    have hP : va_P D vwCl ([] ++ BWW ad b_1) H := hP
    have hD : va_D A ([] ++ BWW ad b_1) := hD
    have hK : va_K D vwCl ([] ++ BWT b_1) s := hK
    refine W.eq (g2 := F0 m 5 ls [.int y2.2.1]) rfl ?_
    refine lv_if_eq (tgt := 12) hx hb dL_right_5 (by decide) (fun c_2 => ?_) (fun c_2 => ?_)
    · rw [if_pos c_2] at hM
      refine lv_iconst (v := 0) hx hb dL_right_12 (by decide) ?_
      refine W.widen (k := (FF9).2.2.1) (n := (FF9).2.2.2) (Nat.le_of_eq (by rw [hM]; first | done | rfl)) (Nat.le_of_eq (by rw [hM]; first | done | rfl)) ?_
      exact W.iret (v := 0) hx hb hr (lw_ret (X := []) (Y := []) b_1 hP hD hK hS (by rw [hM]; first | done | rfl) ⟨(by rw [hM]; exact hM9_1), hb9_1, hBL_1, (by rw [hM]; exact XI.mono hXI_1 (show Bd ≤ Bd + 0 from (by have y1 := f_eq c_2; have z0 := hBd; have e_0 : (0 : Int32).toInt = 0 := (by decide +kernel); omega)))⟩) hS.2.2 dL_right_13
    · rw [if_neg c_2] at hM
      refine lv_iconst (v := 1) hx hb dL_right_8 (by decide) ?_
      refine lv_goto (tgt := 13) hx hb dL_right_9 (by decide) ?_
      refine W.widen (k := (FF9).2.2.1) (n := (FF9).2.2.2) (Nat.le_of_eq (by rw [hM]; first | done | rfl)) (Nat.le_of_eq (by rw [hM]; first | done | rfl)) ?_
      exact W.iret (v := 1) hx hb hr (lw_ret (X := []) (Y := []) b_1 hP hD hK hS (by rw [hM]; first | done | rfl) ⟨(by rw [hM]; exact hM9_1), hb9_1, hBL_1, (by rw [hM]; exact XI.mono hXI_1 (show Bd ≤ Bd + 0 from (by have y1 := f_neq c_2; have z0 := hBd; have e_0 : (0 : Int32).toInt = 0 := (by decide +kernel); omega)))⟩) hS.2.2 dL_right_13
  · rcases hE with ⟨rfl, hst, hM9_1, hb9_1, hBL_1⟩
    · have hM : FF9 = (adc (0 + 2) (0 + 12) (if y2.1 = 0 then (if y2.2.1 = 0 then (0, (T_X10_isRight M y2), 0, 0) else (1, (T_X10_isRight M y2), 0, 0)) else ((-1001), (T_X10_isRight M y2), 0, 0))) := hM.trans (adc_adc _ _ _ _ _)
      rw [if_neg (show ¬ y2.1 = 0 from by rw [hst]; decide)] at hM
      have hXI_1 : XI Bd (T_X10_isRight M y2) := by rw [← hy_1]; exact xt_T_X10_isRight hXI (show Bd ≤ 900000 from (by have h9 := (show Bd ≤ 900000 from (by have z0 := hBd; omega)); omega)) a1
      have hM9_1 : b_1.2.2.2 = (T_X10_isRight M y2) := hM9_1
      have hP : va_P D vwCl ([] ++ BWW ad b_1) H := hP
      have hD : va_D A ([] ++ BWW ad b_1) := hD
      have hK : va_K D vwCl ([] ++ BWT b_1) s := hK
      refine vx_catch (own := RL) (name := "java/lang/IndexOutOfBoundsException") (E := "java/lang/IndexOutOfBoundsException") hown [] (⟨0, 13, 14, 36⟩ : ExceptionTableEntry) [] (htb.trans rfl) (fun z hz => by cases hz) (by decide) (by decide) (hts (.classLink RL 36 "java/lang/IndexOutOfBoundsException") (List.mem_of_getElem? (i := 1) (by decide +kernel))) (fxk_ hF "java/lang/IndexOutOfBoundsException" "java/lang/IndexOutOfBoundsException") hce hvm hcl ?_
      refine W.eq (g2 := F0 m 14 ls [.ref q9]) rfl ?_
      refine lv_astore_n (lv' := [(2, .ref q9), (0, .ref a0), (1, .int a1)]) hx hb dL_right_14 rfl hl (by decide) rfl (fun ls hl => ?_)
      refine lv_sipush (v := (-1001)) hx hb dL_right_15 (by decide +kernel) ?_
      refine W.widen (k := (FF9).2.2.1) (n := (FF9).2.2.2) (Nat.le_of_eq (by rw [hM]; first | done | rfl)) (Nat.le_of_eq (by rw [hM]; first | done | rfl)) ?_
      exact W.iret (v := (-1001)) hx hb hr (lw_ret (X := []) (Y := []) b_1 hP hD hK hS (by rw [hM]; first | done | rfl) ⟨(by rw [hM]; exact hM9_1), hb9_1, hBL_1, (by rw [hM]; exact XI.mono hXI_1 (show Bd ≤ Bd + 0 from (by have z0 := hBd; omega)))⟩) hS.2.2 dL_right_18
def K_L_agree_2 (M : MS) (y2 : Nat × Int32) : Int32 × MS × Nat × Nat := (adc 1 6 (if y2.1 = 0 then (if y2.2 = 0 then (0, M, 0, 0) else (1, M, 0, 0)) else ((-1001), M, 0, 0)))
def F_L_agree (M : MS) (a1 : Int32) : Int32 × MS × Nat × Nat := (K_L_agree_2 M (FF_X10_agree M a1))
set_option maxHeartbeats 4000000 in
set_option maxRecDepth 100000 in
theorem bl_L_agree (l : Launch) (hl0 : l.stackTraces = false) (D : va_G) (ad : Nat → Nat) (sz : Nat) (b : BX) (hBL : BL_ b) (a0 : Nat) (hb9 : b.1 79 = a0) (M : MS) (hM9 : b.2.2.2 = M) (Bd : Nat) (hXI : XI Bd M) (hBd : Bd + 0 ≤ 900000) (a1 : Int32) : Met l yL_agree wsL_agree ({ frames := 8, cells := (F_L_agree M a1).2.2.1, slots := (F_L_agree M a1).2.2.2, locals := 168 }) (PC_ D ad (BWW ad b) (BWT b) sz [.ref a0, .int a1]) (QB_ D (fun _ : BX => some (.int (F_L_agree M a1).1)) (fun b' => b'.2.2.2 = (F_L_agree M a1).2.1 ∧ b'.1 79 = a0 ∧ BL_ b' ∧ XI (Bd + 0) (F_L_agree M a1).2.1) (BWW ad) BWT (va_A (BWW ad b) sz)) (F_L_agree M a1).2.2.1 (F_L_agree M a1).2.2.2 (va_A (BWW ad b) sz) := by
  refine va_MetW (cc := cL_agree) (maxL := 3) (ret := (some .int)) (by decide) rfl ?_
  intro p e s m args below meth c s₁ B hml hv
  obtain ⟨rfl, hsz, hP, hK, hD0, hF⟩ := hv
  have hx := B.exec
  have hb := B.bytes
  have hr := B.returns
  have hts := atoms_spec (ws := wsL_agree) B.pre
  have hown : s.vm.findClass RL = some m.cls := findClass_of_methodNamed B.named
  have hlocks := B.notSynchronized
  have htb := vx_table (x := yL_agree) B (hts _ (List.mem_cons_self))
  subst hsz
  have hD := hD0.self (sz := s.heap.size)
  generalize hAe : va_A (BWW ad b) s.heap.size = A at hD hF ⊢
  have hA : ∀ q : Nat, s.heap.size ≤ q → A q := fun q h => by rw [← hAe]; exact Or.inr h
  obtain ⟨H, hHe⟩ : ∃ H : Heap, H = s.heap := ⟨_, rfl⟩
  have hS : va_S A s.heap H [] := by rw [hHe]; exact va_S.rf
  have hP : va_P D vwCl ([] ++ BWW ad b) H := by rw [hHe]; exact hP
  have hD : va_D A ([] ++ BWW ad b) := hD
  have hK : va_K D vwCl ([] ++ BWT b) s := hK
  rw [← hHe]
  have hl := lv_entry [.ref a0, .int a1] (n := 3) (Nat.le_of_ble_eq_true rfl)
  rw [lg_entry_eq]
  generalize (lg_sl [.ref a0, .int a1] ++ List.replicate (3 - (lg_sl [.ref a0, .int a1]).length) Slot.unset).toArray = ls at hl ⊢
  have hl : lv_has ls 3 [(0, .ref a0), (1, .int a1)] := hl
  generalize hF9 : F_L_agree M a1 = FF9
  have hM : FF9 = (adc 0 0 (K_L_agree_2 M (FF_X10_agree M a1))) := hF9.symm.trans (adc_0 _).symm
  refine lv_aload_n hx hb dL_agree_0 rfl (lv_at hl 0 rfl) ?_
  refine lv_iload_n hx hb dL_agree_1 rfl (lv_at hl 1 rfl) ?_
  have hcon := (b_X10_agree l hl0 D ad H.size b hBL a1 (by rw [hM9]; exact xh_X10_agree hXI (show Bd ≤ 900000 from (by have h9 := (show Bd ≤ 900000 from (by have z0 := hBd; omega)); omega)) a1))
  rw [hM9, hb9] at hcon
  generalize hy_1 : (FF_X10_agree M a1) = y2 at hcon hM
  have hM : FF9 = (adc 0 0 (adc 1 6 (if y2.1 = 0 then (if y2.2 = 0 then (0, M, 0, 0) else (1, M, 0, 0)) else ((-1001), M, 0, 0)))) := hM
  refine kzwb_ [] [] (vx_runV (As := [.int a1]) (rest := []) ⟨hx, hb, hml, hown, hts⟩ hcon (cwV 1 hts gL_agree_X10_agree rfl rfl rfl (by decide +kernel) ⟨Nat.le_of_ble_eq_true rfl, Nat.le_of_ble_eq_true rfl⟩) ⟨PC_.blind, (by rw [← hb9]; exact bw_recv (X := []) (Y := []) hK hP), lw_pre (X := []) (Y := []) hF hK hP hD hS hA⟩ rfl rfl hl.1 rfl (lv_room (Nat.le_of_ble_eq_true rfl)) dL_agree_2 ⟨(adc_r1 hM), (adc_s1 hM)⟩) hK hP hD hS hA (fun b_1 H locs hpo hP hD hK hS => ?_) (fun E9 ce q9 b_1 H locs hE hP hD hK hS hce hvm hcl => ?_)
  · have hM : FF9 = (adc (0 + 1) (0 + 6) (if y2.1 = 0 then (if y2.2 = 0 then (0, M, 0, 0) else (1, M, 0, 0)) else ((-1001), M, 0, 0))) := hM.trans (adc_adc _ _ _ _ _)
    obtain ⟨hst, hM9_1, hb9_1, hBL_1⟩ := hpo
    rw [if_pos hst] at hM
    have hXI_1 := hXI
    have hM9_1 : b_1.2.2.2 = M := hM9_1
    have hP : va_P D vwCl ([] ++ BWW ad b_1) H := hP
    have hD : va_D A ([] ++ BWW ad b_1) := hD
    have hK : va_K D vwCl ([] ++ BWT b_1) s := hK
    refine W.eq (g2 := F0 m 5 ls [.int y2.2]) rfl ?_
    refine lv_if_eq (tgt := 12) hx hb dL_agree_5 (by decide) (fun c_2 => ?_) (fun c_2 => ?_)
    · rw [if_pos c_2] at hM
      refine lv_iconst (v := 0) hx hb dL_agree_12 (by decide) ?_
      refine W.widen (k := (FF9).2.2.1) (n := (FF9).2.2.2) (Nat.le_of_eq (by rw [hM]; first | done | rfl)) (Nat.le_of_eq (by rw [hM]; first | done | rfl)) ?_
      exact W.iret (v := 0) hx hb hr (lw_ret (X := []) (Y := []) b_1 hP hD hK hS (by rw [hM]; first | done | rfl) ⟨(by rw [hM]; exact hM9_1), hb9_1, hBL_1, (by rw [hM]; exact XI.mono hXI_1 (show Bd ≤ Bd + 0 from (by have y1 := f_eq c_2; have z0 := hBd; have e_0 : (0 : Int32).toInt = 0 := (by decide +kernel); omega)))⟩) hS.2.2 dL_agree_13
    · rw [if_neg c_2] at hM
      refine lv_iconst (v := 1) hx hb dL_agree_8 (by decide) ?_
      refine lv_goto (tgt := 13) hx hb dL_agree_9 (by decide) ?_
      refine W.widen (k := (FF9).2.2.1) (n := (FF9).2.2.2) (Nat.le_of_eq (by rw [hM]; first | done | rfl)) (Nat.le_of_eq (by rw [hM]; first | done | rfl)) ?_
      exact W.iret (v := 1) hx hb hr (lw_ret (X := []) (Y := []) b_1 hP hD hK hS (by rw [hM]; first | done | rfl) ⟨(by rw [hM]; exact hM9_1), hb9_1, hBL_1, (by rw [hM]; exact XI.mono hXI_1 (show Bd ≤ Bd + 0 from (by have y1 := f_neq c_2; have z0 := hBd; have e_0 : (0 : Int32).toInt = 0 := (by decide +kernel); omega)))⟩) hS.2.2 dL_agree_13
  · rcases hE with ⟨rfl, hst, hM9_1, hb9_1, hBL_1⟩
    · have hM : FF9 = (adc (0 + 1) (0 + 6) (if y2.1 = 0 then (if y2.2 = 0 then (0, M, 0, 0) else (1, M, 0, 0)) else ((-1001), M, 0, 0))) := hM.trans (adc_adc _ _ _ _ _)
      rw [if_neg (show ¬ y2.1 = 0 from by rw [hst]; decide)] at hM
      have hXI_1 := hXI
      have hM9_1 : b_1.2.2.2 = M := hM9_1
      have hP : va_P D vwCl ([] ++ BWW ad b_1) H := hP
      have hD : va_D A ([] ++ BWW ad b_1) := hD
      have hK : va_K D vwCl ([] ++ BWT b_1) s := hK
      refine vx_catch (own := RL) (name := "java/lang/IllegalArgumentException") (E := "java/lang/IllegalArgumentException") hown [] (⟨0, 13, 14, 38⟩ : ExceptionTableEntry) [] (htb.trans rfl) (fun z hz => by cases hz) (by decide) (by decide) (hts (.classLink RL 38 "java/lang/IllegalArgumentException") (List.mem_of_getElem? (i := 1) (by decide +kernel))) (fxk_ hF "java/lang/IllegalArgumentException" "java/lang/IllegalArgumentException") hce hvm hcl ?_
      refine W.eq (g2 := F0 m 14 ls [.ref q9]) rfl ?_
      refine lv_astore_n (lv' := [(2, .ref q9), (0, .ref a0), (1, .int a1)]) hx hb dL_agree_14 rfl hl (by decide) rfl (fun ls hl => ?_)
      refine lv_sipush (v := (-1001)) hx hb dL_agree_15 (by decide +kernel) ?_
      refine W.widen (k := (FF9).2.2.1) (n := (FF9).2.2.2) (Nat.le_of_eq (by rw [hM]; first | done | rfl)) (Nat.le_of_eq (by rw [hM]; first | done | rfl)) ?_
      exact W.iret (v := (-1001)) hx hb hr (lw_ret (X := []) (Y := []) b_1 hP hD hK hS (by rw [hM]; first | done | rfl) ⟨(by rw [hM]; exact hM9_1), hb9_1, hBL_1, (by rw [hM]; exact XI.mono hXI_1 (show Bd ≤ Bd + 0 from (by have z0 := hBd; omega)))⟩) hS.2.2 dL_agree_18
def K_L_agreeAgain_2 (M : MS) (y2 : Nat × Int32) : Int32 × MS × Nat × Nat := (adc 1 6 (if y2.1 = 0 then (if y2.2 = 0 then (0, M, 0, 0) else (1, M, 0, 0)) else ((-1001), M, 0, 0)))
def F_L_agreeAgain (M : MS) (a1 : Int32) : Int32 × MS × Nat × Nat := (K_L_agreeAgain_2 M (FF_X10_agreeAgain M a1))
set_option maxHeartbeats 4000000 in
set_option maxRecDepth 100000 in
theorem bl_L_agreeAgain (l : Launch) (hl0 : l.stackTraces = false) (D : va_G) (ad : Nat → Nat) (sz : Nat) (b : BX) (hBL : BL_ b) (a0 : Nat) (hb9 : b.1 79 = a0) (M : MS) (hM9 : b.2.2.2 = M) (Bd : Nat) (hXI : XI Bd M) (hBd : Bd + 0 ≤ 900000) (a1 : Int32) : Met l yL_agreeAgain wsL_agreeAgain ({ frames := 8, cells := (F_L_agreeAgain M a1).2.2.1, slots := (F_L_agreeAgain M a1).2.2.2, locals := 167 }) (PC_ D ad (BWW ad b) (BWT b) sz [.ref a0, .int a1]) (QB_ D (fun _ : BX => some (.int (F_L_agreeAgain M a1).1)) (fun b' => b'.2.2.2 = (F_L_agreeAgain M a1).2.1 ∧ b'.1 79 = a0 ∧ BL_ b' ∧ XI (Bd + 0) (F_L_agreeAgain M a1).2.1) (BWW ad) BWT (va_A (BWW ad b) sz)) (F_L_agreeAgain M a1).2.2.1 (F_L_agreeAgain M a1).2.2.2 (va_A (BWW ad b) sz) := by
  refine va_MetW (cc := cL_agreeAgain) (maxL := 3) (ret := (some .int)) (by decide) rfl ?_
  intro p e s m args below meth c s₁ B hml hv
  obtain ⟨rfl, hsz, hP, hK, hD0, hF⟩ := hv
  have hx := B.exec
  have hb := B.bytes
  have hr := B.returns
  have hts := atoms_spec (ws := wsL_agreeAgain) B.pre
  have hown : s.vm.findClass RL = some m.cls := findClass_of_methodNamed B.named
  have hlocks := B.notSynchronized
  have htb := vx_table (x := yL_agreeAgain) B (hts _ (List.mem_cons_self))
  subst hsz
  have hD := hD0.self (sz := s.heap.size)
  generalize hAe : va_A (BWW ad b) s.heap.size = A at hD hF ⊢
  have hA : ∀ q : Nat, s.heap.size ≤ q → A q := fun q h => by rw [← hAe]; exact Or.inr h
  obtain ⟨H, hHe⟩ : ∃ H : Heap, H = s.heap := ⟨_, rfl⟩
  have hS : va_S A s.heap H [] := by rw [hHe]; exact va_S.rf
  have hP : va_P D vwCl ([] ++ BWW ad b) H := by rw [hHe]; exact hP
  have hD : va_D A ([] ++ BWW ad b) := hD
  have hK : va_K D vwCl ([] ++ BWT b) s := hK
  rw [← hHe]
  have hl := lv_entry [.ref a0, .int a1] (n := 3) (Nat.le_of_ble_eq_true rfl)
  rw [lg_entry_eq]
  generalize (lg_sl [.ref a0, .int a1] ++ List.replicate (3 - (lg_sl [.ref a0, .int a1]).length) Slot.unset).toArray = ls at hl ⊢
  have hl : lv_has ls 3 [(0, .ref a0), (1, .int a1)] := hl
  generalize hF9 : F_L_agreeAgain M a1 = FF9
  have hM : FF9 = (adc 0 0 (K_L_agreeAgain_2 M (FF_X10_agreeAgain M a1))) := hF9.symm.trans (adc_0 _).symm
  refine lv_aload_n hx hb dL_agreeAgain_0 rfl (lv_at hl 0 rfl) ?_
  refine lv_iload_n hx hb dL_agreeAgain_1 rfl (lv_at hl 1 rfl) ?_
  have hcon := (b_X10_agreeAgain l hl0 D ad H.size b hBL a1 (by rw [hM9]; exact xh_X10_agreeAgain hXI (show Bd ≤ 900000 from (by have h9 := (show Bd ≤ 900000 from (by have z0 := hBd; omega)); omega)) a1))
  rw [hM9, hb9] at hcon
  generalize hy_1 : (FF_X10_agreeAgain M a1) = y2 at hcon hM
  have hM : FF9 = (adc 0 0 (adc 1 6 (if y2.1 = 0 then (if y2.2 = 0 then (0, M, 0, 0) else (1, M, 0, 0)) else ((-1001), M, 0, 0)))) := hM
  refine kzwb_ [] [] (vx_runV (As := [.int a1]) (rest := []) ⟨hx, hb, hml, hown, hts⟩ hcon (cwV 1 hts gL_agreeAgain_X10_agreeAgain rfl rfl rfl (by decide +kernel) ⟨Nat.le_of_ble_eq_true rfl, Nat.le_of_ble_eq_true rfl⟩) ⟨PC_.blind, (by rw [← hb9]; exact bw_recv (X := []) (Y := []) hK hP), lw_pre (X := []) (Y := []) hF hK hP hD hS hA⟩ rfl rfl hl.1 rfl (lv_room (Nat.le_of_ble_eq_true rfl)) dL_agreeAgain_2 ⟨(adc_r1 hM), (adc_s1 hM)⟩) hK hP hD hS hA (fun b_1 H locs hpo hP hD hK hS => ?_) (fun E9 ce q9 b_1 H locs hE hP hD hK hS hce hvm hcl => ?_)
  · have hM : FF9 = (adc (0 + 1) (0 + 6) (if y2.1 = 0 then (if y2.2 = 0 then (0, M, 0, 0) else (1, M, 0, 0)) else ((-1001), M, 0, 0))) := hM.trans (adc_adc _ _ _ _ _)
    obtain ⟨hst, hM9_1, hb9_1, hBL_1⟩ := hpo
    rw [if_pos hst] at hM
    have hXI_1 := hXI
    have hM9_1 : b_1.2.2.2 = M := hM9_1
    have hP : va_P D vwCl ([] ++ BWW ad b_1) H := hP
    have hD : va_D A ([] ++ BWW ad b_1) := hD
    have hK : va_K D vwCl ([] ++ BWT b_1) s := hK
    refine W.eq (g2 := F0 m 5 ls [.int y2.2]) rfl ?_
    refine lv_if_eq (tgt := 12) hx hb dL_agreeAgain_5 (by decide) (fun c_2 => ?_) (fun c_2 => ?_)
    · rw [if_pos c_2] at hM
      refine lv_iconst (v := 0) hx hb dL_agreeAgain_12 (by decide) ?_
      refine W.widen (k := (FF9).2.2.1) (n := (FF9).2.2.2) (Nat.le_of_eq (by rw [hM]; first | done | rfl)) (Nat.le_of_eq (by rw [hM]; first | done | rfl)) ?_
      exact W.iret (v := 0) hx hb hr (lw_ret (X := []) (Y := []) b_1 hP hD hK hS (by rw [hM]; first | done | rfl) ⟨(by rw [hM]; exact hM9_1), hb9_1, hBL_1, (by rw [hM]; exact XI.mono hXI_1 (show Bd ≤ Bd + 0 from (by have y1 := f_eq c_2; have z0 := hBd; have e_0 : (0 : Int32).toInt = 0 := (by decide +kernel); omega)))⟩) hS.2.2 dL_agreeAgain_13
    · rw [if_neg c_2] at hM
      refine lv_iconst (v := 1) hx hb dL_agreeAgain_8 (by decide) ?_
      refine lv_goto (tgt := 13) hx hb dL_agreeAgain_9 (by decide) ?_
      refine W.widen (k := (FF9).2.2.1) (n := (FF9).2.2.2) (Nat.le_of_eq (by rw [hM]; first | done | rfl)) (Nat.le_of_eq (by rw [hM]; first | done | rfl)) ?_
      exact W.iret (v := 1) hx hb hr (lw_ret (X := []) (Y := []) b_1 hP hD hK hS (by rw [hM]; first | done | rfl) ⟨(by rw [hM]; exact hM9_1), hb9_1, hBL_1, (by rw [hM]; exact XI.mono hXI_1 (show Bd ≤ Bd + 0 from (by have y1 := f_neq c_2; have z0 := hBd; have e_0 : (0 : Int32).toInt = 0 := (by decide +kernel); omega)))⟩) hS.2.2 dL_agreeAgain_13
  · rcases hE with ⟨rfl, hst, hM9_1, hb9_1, hBL_1⟩
    · have hM : FF9 = (adc (0 + 1) (0 + 6) (if y2.1 = 0 then (if y2.2 = 0 then (0, M, 0, 0) else (1, M, 0, 0)) else ((-1001), M, 0, 0))) := hM.trans (adc_adc _ _ _ _ _)
      rw [if_neg (show ¬ y2.1 = 0 from by rw [hst]; decide)] at hM
      have hXI_1 := hXI
      have hM9_1 : b_1.2.2.2 = M := hM9_1
      have hP : va_P D vwCl ([] ++ BWW ad b_1) H := hP
      have hD : va_D A ([] ++ BWW ad b_1) := hD
      have hK : va_K D vwCl ([] ++ BWT b_1) s := hK
      refine vx_catch (own := RL) (name := "java/lang/IllegalArgumentException") (E := "java/lang/IllegalArgumentException") hown [] (⟨0, 13, 14, 38⟩ : ExceptionTableEntry) [] (htb.trans rfl) (fun z hz => by cases hz) (by decide) (by decide) (hts (.classLink RL 38 "java/lang/IllegalArgumentException") (List.mem_of_getElem? (i := 1) (by decide +kernel))) (fxk_ hF "java/lang/IllegalArgumentException" "java/lang/IllegalArgumentException") hce hvm hcl ?_
      refine W.eq (g2 := F0 m 14 ls [.ref q9]) rfl ?_
      refine lv_astore_n (lv' := [(2, .ref q9), (0, .ref a0), (1, .int a1)]) hx hb dL_agreeAgain_14 rfl hl (by decide) rfl (fun ls hl => ?_)
      refine lv_sipush (v := (-1001)) hx hb dL_agreeAgain_15 (by decide +kernel) ?_
      refine W.widen (k := (FF9).2.2.1) (n := (FF9).2.2.2) (Nat.le_of_eq (by rw [hM]; first | done | rfl)) (Nat.le_of_eq (by rw [hM]; first | done | rfl)) ?_
      exact W.iret (v := (-1001)) hx hb hr (lw_ret (X := []) (Y := []) b_1 hP hD hK hS (by rw [hM]; first | done | rfl) ⟨(by rw [hM]; exact hM9_1), hb9_1, hBL_1, (by rw [hM]; exact XI.mono hXI_1 (show Bd ≤ Bd + 0 from (by have z0 := hBd; omega)))⟩) hS.2.2 dL_agreeAgain_18
def K_L_settledIn_1 (M : MS) (y1 : Nat × Int32 × Nat × Int32 × (Nat → Int32) × (Nat → Int32) × (Nat → Int32) × Nat × (Nat → Int32) × Int32 × Int32 × Int32 × Int32 × Int32 × Int32 × Int32 × List PG × Nat × Nat) : Int32 × MS × Nat × Nat := (adc y1.2.2.2.2.2.2.2.2.2.2.2.2.2.2.2.2.2.1 y1.2.2.2.2.2.2.2.2.2.2.2.2.2.2.2.2.2.2 (if y1.1 = 0 then (y1.2.1, (T_X10_settledIn M y1), 0, 0) else ((-1001), (T_X10_settledIn M y1), 0, 0)))
def F_L_settledIn (M : MS) : Int32 × MS × Nat × Nat := (K_L_settledIn_1 M (FF_X10_settledIn M))
set_option maxHeartbeats 4000000 in
set_option maxRecDepth 100000 in
theorem bl_L_settledIn (l : Launch) (hl0 : l.stackTraces = false) (D : va_G) (ad : Nat → Nat) (sz : Nat) (b : BX) (hBL : BL_ b) (a0 : Nat) (hb9 : b.1 79 = a0) (M : MS) (hM9 : b.2.2.2 = M) (Bd : Nat) (hXI : XI Bd M) (hBd : Bd + 600 ≤ 900000) : Met l yL_settledIn wsL_settledIn ({ frames := 11, cells := (F_L_settledIn M).2.2.1, slots := (F_L_settledIn M).2.2.2, locals := 299 }) (PC_ D ad (BWW ad b) (BWT b) sz [.ref a0]) (QB_ D (fun _ : BX => some (.int (F_L_settledIn M).1)) (fun b' => b'.2.2.2 = (F_L_settledIn M).2.1 ∧ b'.1 79 = a0 ∧ BL_ b' ∧ XI (Bd + 600) (F_L_settledIn M).2.1) (BWW ad) BWT (va_A (BWW ad b) sz)) (F_L_settledIn M).2.2.1 (F_L_settledIn M).2.2.2 (va_A (BWW ad b) sz) := by
  refine va_MetW (cc := cL_settledIn) (maxL := 2) (ret := (some .int)) (by decide) rfl ?_
  intro p e s m args below meth c s₁ B hml hv
  obtain ⟨rfl, hsz, hP, hK, hD0, hF⟩ := hv
  have hx := B.exec
  have hb := B.bytes
  have hr := B.returns
  have hts := atoms_spec (ws := wsL_settledIn) B.pre
  have hown : s.vm.findClass RL = some m.cls := findClass_of_methodNamed B.named
  have hlocks := B.notSynchronized
  have htb := vx_table (x := yL_settledIn) B (hts _ (List.mem_cons_self))
  subst hsz
  have hD := hD0.self (sz := s.heap.size)
  generalize hAe : va_A (BWW ad b) s.heap.size = A at hD hF ⊢
  have hA : ∀ q : Nat, s.heap.size ≤ q → A q := fun q h => by rw [← hAe]; exact Or.inr h
  obtain ⟨H, hHe⟩ : ∃ H : Heap, H = s.heap := ⟨_, rfl⟩
  have hS : va_S A s.heap H [] := by rw [hHe]; exact va_S.rf
  have hP : va_P D vwCl ([] ++ BWW ad b) H := by rw [hHe]; exact hP
  have hD : va_D A ([] ++ BWW ad b) := hD
  have hK : va_K D vwCl ([] ++ BWT b) s := hK
  rw [← hHe]
  have hl := lv_entry [.ref a0] (n := 2) (Nat.le_of_ble_eq_true rfl)
  rw [lg_entry_eq]
  generalize (lg_sl [.ref a0] ++ List.replicate (2 - (lg_sl [.ref a0]).length) Slot.unset).toArray = ls at hl ⊢
  have hl : lv_has ls 2 [(0, .ref a0)] := hl
  generalize hF9 : F_L_settledIn M = FF9
  have hM : FF9 = (adc 0 0 (K_L_settledIn_1 M (FF_X10_settledIn M))) := hF9.symm.trans (adc_0 _).symm
  refine lv_aload_n hx hb dL_settledIn_0 rfl (lv_at hl 0 rfl) ?_
  have hcon := (b_X10_settledIn l hl0 D ad H.size b hBL (by rw [hM9]; exact xh_X10_settledIn hXI (show Bd ≤ 900000 from (by have h9 := (show (Bd + 600) ≤ 900000 from (by have z0 := hBd; omega)); omega))))
  rw [hM9, hb9] at hcon
  generalize hy_1 : (FF_X10_settledIn M) = y1 at hcon hM
  have hM : FF9 = (adc 0 0 (adc y1.2.2.2.2.2.2.2.2.2.2.2.2.2.2.2.2.2.1 y1.2.2.2.2.2.2.2.2.2.2.2.2.2.2.2.2.2.2 (if y1.1 = 0 then (y1.2.1, (T_X10_settledIn M y1), 0, 0) else ((-1001), (T_X10_settledIn M y1), 0, 0)))) := hM
  refine kzwb_ [] [] (vx_runV (As := []) (rest := []) ⟨hx, hb, hml, hown, hts⟩ hcon (cwV 0 hts gL_settledIn_X10_settledIn rfl rfl rfl (by decide +kernel) ⟨Nat.le_of_ble_eq_true rfl, Nat.le_of_ble_eq_true rfl⟩) ⟨PC_.blind, (by rw [← hb9]; exact bw_recv (X := []) (Y := []) hK hP), lw_pre (X := []) (Y := []) hF hK hP hD hS hA⟩ rfl rfl hl.1 rfl (lv_room (Nat.le_of_ble_eq_true rfl)) dL_settledIn_1 ⟨(adc_r1 hM), (adc_s1 hM)⟩) hK hP hD hS hA (fun b_1 H locs hpo hP hD hK hS => ?_) (fun E9 ce q9 b_1 H locs hE hP hD hK hS hce hvm hcl => ?_)
  · have hM : FF9 = (adc (0 + y1.2.2.2.2.2.2.2.2.2.2.2.2.2.2.2.2.2.1) (0 + y1.2.2.2.2.2.2.2.2.2.2.2.2.2.2.2.2.2.2) (if y1.1 = 0 then (y1.2.1, (T_X10_settledIn M y1), 0, 0) else ((-1001), (T_X10_settledIn M y1), 0, 0))) := hM.trans (adc_adc _ _ _ _ _)
    obtain ⟨hst, hM9_1, hb9_1, hen, hBL_1⟩ := hpo
    rw [if_pos hst] at hM
    have hXI_1 : XI (Bd + 600) (T_X10_settledIn M y1) := by rw [← hy_1]; exact xt_T_X10_settledIn hXI (show Bd ≤ 900000 from (by have h9 := (show (Bd + 600) ≤ 900000 from (by have z0 := hBd; omega)); omega)) (by rw [hy_1]; exact hen)
    have hM9_1 : b_1.2.2.2 = (T_X10_settledIn M y1) := hM9_1
    have hP : va_P D vwCl ([] ++ BWW ad b_1) H := hP
    have hD : va_D A ([] ++ BWW ad b_1) := hD
    have hK : va_K D vwCl ([] ++ BWT b_1) s := hK
    refine W.eq (g2 := F0 m 4 ls [.int y1.2.1]) rfl ?_
    refine W.widen (k := (FF9).2.2.1) (n := (FF9).2.2.2) (Nat.le_of_eq (by rw [hM]; first | done | rfl)) (Nat.le_of_eq (by rw [hM]; first | done | rfl)) ?_
    exact W.iret (v := y1.2.1) hx hb hr (lw_ret (X := []) (Y := []) b_1 hP hD hK hS (by rw [hM]; first | done | rfl) ⟨(by rw [hM]; exact hM9_1), hb9_1, hBL_1, (by rw [hM]; exact XI.mono hXI_1 (show (Bd + 600) ≤ Bd + 600 from (by have z0 := hBd; omega)))⟩) hS.2.2 dL_settledIn_4
  · rcases hE with ⟨rfl, hst, hM9_1, hb9_1, hen, hBL_1⟩
    · have hM : FF9 = (adc (0 + y1.2.2.2.2.2.2.2.2.2.2.2.2.2.2.2.2.2.1) (0 + y1.2.2.2.2.2.2.2.2.2.2.2.2.2.2.2.2.2.2) (if y1.1 = 0 then (y1.2.1, (T_X10_settledIn M y1), 0, 0) else ((-1001), (T_X10_settledIn M y1), 0, 0))) := hM.trans (adc_adc _ _ _ _ _)
      rw [if_neg (show ¬ y1.1 = 0 from by rw [hst]; decide)] at hM
      have hXI_1 : XI (Bd + 600) (T_X10_settledIn M y1) := by rw [← hy_1]; exact xt_T_X10_settledIn hXI (show Bd ≤ 900000 from (by have h9 := (show (Bd + 600) ≤ 900000 from (by have z0 := hBd; omega)); omega)) (by rw [hy_1]; exact hen)
      have hM9_1 : b_1.2.2.2 = (T_X10_settledIn M y1) := hM9_1
      have hP : va_P D vwCl ([] ++ BWW ad b_1) H := hP
      have hD : va_D A ([] ++ BWW ad b_1) := hD
      have hK : va_K D vwCl ([] ++ BWT b_1) s := hK
      refine vx_catch (own := RL) (name := "java/util/NoSuchElementException") (E := "java/util/NoSuchElementException") hown [] (⟨0, 4, 5, 43⟩ : ExceptionTableEntry) [] (htb.trans rfl) (fun z hz => by cases hz) (by decide) (by decide) (hts (.classLink RL 43 "java/util/NoSuchElementException") (List.mem_of_getElem? (i := 1) (by decide +kernel))) (fxk_ hF "java/util/NoSuchElementException" "java/util/NoSuchElementException") hce hvm hcl ?_
      refine W.eq (g2 := F0 m 5 ls [.ref q9]) rfl ?_
      refine lv_astore_n (lv' := [(1, .ref q9), (0, .ref a0)]) hx hb dL_settledIn_5 rfl hl (by decide) rfl (fun ls hl => ?_)
      refine lv_sipush (v := (-1001)) hx hb dL_settledIn_6 (by decide +kernel) ?_
      refine W.widen (k := (FF9).2.2.1) (n := (FF9).2.2.2) (Nat.le_of_eq (by rw [hM]; first | done | rfl)) (Nat.le_of_eq (by rw [hM]; first | done | rfl)) ?_
      exact W.iret (v := (-1001)) hx hb hr (lw_ret (X := []) (Y := []) b_1 hP hD hK hS (by rw [hM]; first | done | rfl) ⟨(by rw [hM]; exact hM9_1), hb9_1, hBL_1, (by rw [hM]; exact XI.mono hXI_1 (show (Bd + 600) ≤ Bd + 600 from (by have z0 := hBd; omega)))⟩) hS.2.2 dL_settledIn_9
def K_L_members_2 (M : MS) (y2 : Nat × Int32) : Int32 × MS × Nat × Nat := (adc 1 6 (if y2.1 = 0 then (y2.2, M, 0, 0) else ((-1001), M, 0, 0)))
def F_L_members (M : MS) (a1 : Int32) : Int32 × MS × Nat × Nat := (K_L_members_2 M (FF_X10_members M a1))
set_option maxHeartbeats 4000000 in
set_option maxRecDepth 100000 in
theorem bl_L_members (l : Launch) (hl0 : l.stackTraces = false) (D : va_G) (ad : Nat → Nat) (sz : Nat) (b : BX) (hBL : BL_ b) (a0 : Nat) (hb9 : b.1 79 = a0) (M : MS) (hM9 : b.2.2.2 = M) (Bd : Nat) (hXI : XI Bd M) (hBd : Bd + 0 ≤ 900000) (a1 : Int32) : Met l yL_members wsL_members ({ frames := 8, cells := (F_L_members M a1).2.2.1, slots := (F_L_members M a1).2.2.2, locals := 147 }) (PC_ D ad (BWW ad b) (BWT b) sz [.ref a0, .int a1]) (QB_ D (fun _ : BX => some (.int (F_L_members M a1).1)) (fun b' => b'.2.2.2 = (F_L_members M a1).2.1 ∧ b'.1 79 = a0 ∧ BL_ b' ∧ XI (Bd + 0) (F_L_members M a1).2.1) (BWW ad) BWT (va_A (BWW ad b) sz)) (F_L_members M a1).2.2.1 (F_L_members M a1).2.2.2 (va_A (BWW ad b) sz) := by
  refine va_MetW (cc := cL_members) (maxL := 3) (ret := (some .int)) (by decide) rfl ?_
  intro p e s m args below meth c s₁ B hml hv
  obtain ⟨rfl, hsz, hP, hK, hD0, hF⟩ := hv
  have hx := B.exec
  have hb := B.bytes
  have hr := B.returns
  have hts := atoms_spec (ws := wsL_members) B.pre
  have hown : s.vm.findClass RL = some m.cls := findClass_of_methodNamed B.named
  have hlocks := B.notSynchronized
  have htb := vx_table (x := yL_members) B (hts _ (List.mem_cons_self))
  subst hsz
  have hD := hD0.self (sz := s.heap.size)
  generalize hAe : va_A (BWW ad b) s.heap.size = A at hD hF ⊢
  have hA : ∀ q : Nat, s.heap.size ≤ q → A q := fun q h => by rw [← hAe]; exact Or.inr h
  obtain ⟨H, hHe⟩ : ∃ H : Heap, H = s.heap := ⟨_, rfl⟩
  have hS : va_S A s.heap H [] := by rw [hHe]; exact va_S.rf
  have hP : va_P D vwCl ([] ++ BWW ad b) H := by rw [hHe]; exact hP
  have hD : va_D A ([] ++ BWW ad b) := hD
  have hK : va_K D vwCl ([] ++ BWT b) s := hK
  rw [← hHe]
  have hl := lv_entry [.ref a0, .int a1] (n := 3) (Nat.le_of_ble_eq_true rfl)
  rw [lg_entry_eq]
  generalize (lg_sl [.ref a0, .int a1] ++ List.replicate (3 - (lg_sl [.ref a0, .int a1]).length) Slot.unset).toArray = ls at hl ⊢
  have hl : lv_has ls 3 [(0, .ref a0), (1, .int a1)] := hl
  generalize hF9 : F_L_members M a1 = FF9
  have hM : FF9 = (adc 0 0 (K_L_members_2 M (FF_X10_members M a1))) := hF9.symm.trans (adc_0 _).symm
  refine lv_aload_n hx hb dL_members_0 rfl (lv_at hl 0 rfl) ?_
  refine lv_iload_n hx hb dL_members_1 rfl (lv_at hl 1 rfl) ?_
  have hcon := (b_X10_members l hl0 D ad H.size b hBL a1 (by rw [hM9]; exact xh_X10_members hXI (show Bd ≤ 900000 from (by have h9 := (show Bd ≤ 900000 from (by have z0 := hBd; omega)); omega)) a1))
  rw [hM9, hb9] at hcon
  generalize hy_1 : (FF_X10_members M a1) = y2 at hcon hM
  have hM : FF9 = (adc 0 0 (adc 1 6 (if y2.1 = 0 then (y2.2, M, 0, 0) else ((-1001), M, 0, 0)))) := hM
  refine kzwb_ [] [] (vx_runV (As := [.int a1]) (rest := []) ⟨hx, hb, hml, hown, hts⟩ hcon (cwV 1 hts gL_members_X10_members rfl rfl rfl (by decide +kernel) ⟨Nat.le_of_ble_eq_true rfl, Nat.le_of_ble_eq_true rfl⟩) ⟨PC_.blind, (by rw [← hb9]; exact bw_recv (X := []) (Y := []) hK hP), lw_pre (X := []) (Y := []) hF hK hP hD hS hA⟩ rfl rfl hl.1 rfl (lv_room (Nat.le_of_ble_eq_true rfl)) dL_members_2 ⟨(adc_r1 hM), (adc_s1 hM)⟩) hK hP hD hS hA (fun b_1 H locs hpo hP hD hK hS => ?_) (fun E9 ce q9 b_1 H locs hE hP hD hK hS hce hvm hcl => ?_)
  · have hM : FF9 = (adc (0 + 1) (0 + 6) (if y2.1 = 0 then (y2.2, M, 0, 0) else ((-1001), M, 0, 0))) := hM.trans (adc_adc _ _ _ _ _)
    obtain ⟨hst, hM9_1, hb9_1, hBL_1⟩ := hpo
    rw [if_pos hst] at hM
    have hXI_1 := hXI
    have hM9_1 : b_1.2.2.2 = M := hM9_1
    have hBL_1 : BL_ b_1 := hBL_1 hBL
    have hP : va_P D vwCl ([] ++ BWW ad b_1) H := hP
    have hD : va_D A ([] ++ BWW ad b_1) := hD
    have hK : va_K D vwCl ([] ++ BWT b_1) s := hK
    refine W.eq (g2 := F0 m 5 ls [.int y2.2]) rfl ?_
    refine W.widen (k := (FF9).2.2.1) (n := (FF9).2.2.2) (Nat.le_of_eq (by rw [hM]; first | done | rfl)) (Nat.le_of_eq (by rw [hM]; first | done | rfl)) ?_
    exact W.iret (v := y2.2) hx hb hr (lw_ret (X := []) (Y := []) b_1 hP hD hK hS (by rw [hM]; first | done | rfl) ⟨(by rw [hM]; exact hM9_1), hb9_1, hBL_1, (by rw [hM]; exact XI.mono hXI_1 (show Bd ≤ Bd + 0 from (by have z0 := hBd; omega)))⟩) hS.2.2 dL_members_5
  · rcases hE with ⟨rfl, hst, hM9_1, hb9_1, hBL_1⟩
    · have hM : FF9 = (adc (0 + 1) (0 + 6) (if y2.1 = 0 then (y2.2, M, 0, 0) else ((-1001), M, 0, 0))) := hM.trans (adc_adc _ _ _ _ _)
      rw [if_neg (show ¬ y2.1 = 0 from by rw [hst]; decide)] at hM
      have hXI_1 := hXI
      have hM9_1 : b_1.2.2.2 = M := hM9_1
      have hBL_1 : BL_ b_1 := hBL_1 hBL
      have hP : va_P D vwCl ([] ++ BWW ad b_1) H := hP
      have hD : va_D A ([] ++ BWW ad b_1) := hD
      have hK : va_K D vwCl ([] ++ BWT b_1) s := hK
      refine vx_catch (own := RL) (name := "java/lang/IllegalArgumentException") (E := "java/lang/IllegalArgumentException") hown [] (⟨0, 5, 6, 38⟩ : ExceptionTableEntry) [] (htb.trans rfl) (fun z hz => by cases hz) (by decide) (by decide) (hts (.classLink RL 38 "java/lang/IllegalArgumentException") (List.mem_of_getElem? (i := 1) (by decide +kernel))) (fxk_ hF "java/lang/IllegalArgumentException" "java/lang/IllegalArgumentException") hce hvm hcl ?_
      refine W.eq (g2 := F0 m 6 ls [.ref q9]) rfl ?_
      refine lv_astore_n (lv' := [(2, .ref q9), (0, .ref a0), (1, .int a1)]) hx hb dL_members_6 rfl hl (by decide) rfl (fun ls hl => ?_)
      refine lv_sipush (v := (-1001)) hx hb dL_members_7 (by decide +kernel) ?_
      refine W.widen (k := (FF9).2.2.1) (n := (FF9).2.2.2) (Nat.le_of_eq (by rw [hM]; first | done | rfl)) (Nat.le_of_eq (by rw [hM]; first | done | rfl)) ?_
      exact W.iret (v := (-1001)) hx hb hr (lw_ret (X := []) (Y := []) b_1 hP hD hK hS (by rw [hM]; first | done | rfl) ⟨(by rw [hM]; exact hM9_1), hb9_1, hBL_1, (by rw [hM]; exact XI.mono hXI_1 (show Bd ≤ Bd + 0 from (by have z0 := hBd; omega)))⟩) hS.2.2 dL_members_10
