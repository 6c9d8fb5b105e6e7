def K_L_is_35  : (Int32 × MS × Nat × Nat) → (Int32 × MS × Nat × Nat)
  | (y35_0, y35_1, y35_2, y35_3) => (adc y35_2 y35_3 (if y35_0 = (-1001) then (1, y35_1, 0, 0) else (0, y35_1, 0, 0)))
def K_L_is_23  : (Int32 × MS × Nat × Nat) → (Int32 × MS × Nat × Nat)
  | (y23_0, y23_1, y23_2, y23_3) => (adc y23_2 y23_3 (if y23_0 = (-1001) then (K_L_is_35 (F_L_reason y23_1 1 1)) else (0, y23_1, 0, 0)))
def K_L_is_13 (a2 : Int32) : (Int32 × MS × Nat × Nat) → (Int32 × MS × Nat × Nat)
  | (y13_0, y13_1, y13_2, y13_3) => (adc y13_2 y13_3 (if y13_0 = a2 then (K_L_is_23 (F_L_reason y13_1 1 0)) else (0, y13_1, 0, 0)))
def K_L_is_3 (a1 : Int32) (a2 : Int32) : (Int32 × MS × Nat × Nat) → (Int32 × MS × Nat × Nat)
  | (y3_0, y3_1, y3_2, y3_3) => (adc y3_2 y3_3 (if y3_0 = a1 then (K_L_is_13 a2 (F_L_reason y3_1 0 1)) else (0, y3_1, 0, 0)))
def F_L_is (M : MS) (a1 : Int32) (a2 : Int32) : Int32 × MS × Nat × Nat := (K_L_is_3 a1 a2 (F_L_reason M 0 0))
set_option maxHeartbeats 4000000 in
set_option maxRecDepth 100000 in
theorem bl_L_is (l : Launch) (hl0 : l.stackTraces = false) (D : va_G) (ad : Nat → Nat) (sz : Nat) (b : BX) (hBL : BL_ b) (a0 : Nat) (hb9 : b.1 79 = a0) (M : MS) (hM9 : b.2.2.2 = M) (Bd : Nat) (hXI : XI Bd M) (hBd : Bd + 0 ≤ 900000) (a1 : Int32) (a2 : Int32) : Met l yL_is wsL_is ({ frames := 8, cells := (F_L_is M a1 a2).2.2.1, slots := (F_L_is M a1 a2).2.2.2, locals := 150 }) (PC_ D ad (BWW ad b) (BWT b) sz [.ref a0, .int a1, .int a2]) (QB_ D (fun _ : BX => some (.int (F_L_is M a1 a2).1)) (fun b' => b'.2.2.2 = (F_L_is M a1 a2).2.1 ∧ b'.1 79 = a0 ∧ BL_ b' ∧ XI (Bd + 0) (F_L_is M a1 a2).2.1) (BWW ad) BWT (va_A (BWW ad b) sz)) (F_L_is M a1 a2).2.2.1 (F_L_is M a1 a2).2.2.2 (va_A (BWW ad b) sz) := by
  refine Met.ofW (cc := cL_is) (maxL := 3) (ret := (some .boolean)) (by decide) rfl ?_
  intro p e s m args below meth c s₁ B hml hv
  obtain ⟨rfl, hsz, hP, hK, hD0, hF⟩ := hv
  have hx := B.exec
  have hb := B.bytes
  have hr := B.returns
  have hts := atoms_spec (ws := wsL_is) B.pre
  have hown : s.vm.findClass RL = some m.cls := findClass_of_methodNamed B.named
  have hlocks := B.notSynchronized
  subst hsz
  have hD := hD0.self (sz := s.heap.size)
  generalize hAe : va_A (BWW ad b) s.heap.size = A at hD hF ⊢
  have hA : ∀ q : Nat, s.heap.size ≤ q → A q := fun q h => by rw [← hAe]; exact Or.inr h
  obtain ⟨H, hHe⟩ : ∃ H : Heap, H = s.heap := ⟨_, rfl⟩
  have hS : va_S A s.heap H [] := by rw [hHe]; exact va_S.rf
  have hP : va_P D vwCl ([] ++ BWW ad b) H := by rw [hHe]; exact hP
  have hD : va_D A ([] ++ BWW ad b) := hD
  have hK : va_K D vwCl ([] ++ BWT b) s := hK
  rw [← hHe]
  have hl := lv_entry [.ref a0, .int a1, .int a2] (n := 3) (Nat.le_of_ble_eq_true rfl)
  rw [lg_entry_eq]
  generalize (lg_sl [.ref a0, .int a1, .int a2] ++ List.replicate (3 - (lg_sl [.ref a0, .int a1, .int a2]).length) Slot.unset).toArray = ls at hl ⊢
  have hl : lv_has ls 3 [(0, .ref a0), (1, .int a1), (2, .int a2)] := hl
  generalize hF9 : F_L_is M a1 a2 = FF9
  have hM : FF9 = (adc 0 0 (K_L_is_3 a1 a2 (F_L_reason M 0 0))) := hF9.symm.trans (adc_0 _).symm
  refine lv_aload_n hx hb dL_is_0 rfl (lv_at hl 0 rfl) ?_
  refine lv_iconst (v := 0) hx hb dL_is_1 (by decide) ?_
  refine lv_iconst (v := 0) hx hb dL_is_2 (by decide) ?_
  have hcon := (bl_L_reason l hl0 D ad H.size b hBL a0 hb9 M hM9 Bd hXI (show Bd ≤ 900000 from (by have z0 := hBd; omega)) 0 0)
  generalize hy_1 : (F_L_reason M 0 0) = y9 at hcon hM
  obtain ⟨y3_0, y3_1, y3_2, y3_3⟩ := y9
  have hM : FF9 = (adc 0 0 (adc y3_2 y3_3 (if y3_0 = a1 then (K_L_is_13 a2 (F_L_reason y3_1 0 1)) else (0, y3_1, 0, 0)))) := hM
  refine kwb_ [] [] (vx_runSW (As := [.ref a0, .int 0, .int 0]) (rest := []) ⟨hx, hb, hml, hown, hts⟩ hcon (vx_cwSW 3 hts gL_is_L_reason rfl rfl rfl (by decide +kernel) ⟨Nat.le_of_ble_eq_true rfl, Nat.le_of_ble_eq_true rfl⟩) ⟨PC_.blind, lw_pre (X := []) (Y := []) hF hK hP hD hS hA⟩ rfl rfl hl.1 rfl (lv_room (Nat.le_of_ble_eq_true rfl)) dL_is_3 ⟨(adc_r1 hM), (adc_s1 hM)⟩) hK hP hD hS hA (fun b_1 H locs hpo hP hD hK hS => ?_)
  have hM : FF9 = (adc (0 + y3_2) (0 + y3_3) (if y3_0 = a1 then (K_L_is_13 a2 (F_L_reason y3_1 0 1)) else (0, y3_1, 0, 0))) := hM.trans (adc_adc _ _ _ _ _)
  obtain ⟨hM9_1, hb9_1, hBL_1, hXI_1⟩ := hpo
  have hM9_1 : b_1.2.2.2 = y3_1 := hM9_1
  have hXI_1 : XI Bd y3_1 := hXI_1
  have hP : va_P D vwCl ([] ++ BWW ad b_1) H := hP
  have hD : va_D A ([] ++ BWW ad b_1) := hD
  have hK : va_K D vwCl ([] ++ BWT b_1) s := hK
  refine W.eq (g2 := F0 m 6 ls [.int y3_0]) rfl ?_
  refine lv_iload_n hx hb dL_is_6 rfl (lv_at hl 1 rfl) ?_
  refine lv_icmp_ne (tgt := 48) hx hb dL_is_7 (by decide) (fun c_2 => ?_) (fun c_2 => ?_)
  · rw [if_neg c_2] at hM
    refine lv_iconst (v := 0) hx hb dL_is_48 (by decide) ?_
    refine W.widen (k := (FF9).2.2.1) (n := (FF9).2.2.2) (Nat.le_of_eq (by rw [hM]; first | done | rfl)) (Nat.le_of_eq (by rw [hM]; first | done | rfl)) ?_
    exact W.zret (v := 0) hx hb hr rfl (lw_ret (X := []) (Y := []) b_1 hP hD hK hS (by rw [hM]; first | done | rfl) ⟨(by rw [hM]; exact hM9_1), hb9_1, hBL_1, (by rw [hM]; exact XI.mono hXI_1 (show Bd ≤ Bd + 0 from (by have z0 := hBd; omega)))⟩) hS.2.2 dL_is_49
  · rw [if_pos c_2] at hM
    refine lv_aload_n hx hb dL_is_10 rfl (lv_at hl 0 rfl) ?_
    refine lv_iconst (v := 0) hx hb dL_is_11 (by decide) ?_
    refine lv_iconst (v := 1) hx hb dL_is_12 (by decide) ?_
    have hcon := (bl_L_reason l hl0 D ad H.size b_1 hBL_1 a0 hb9_1 y3_1 hM9_1 Bd hXI_1 (show Bd ≤ 900000 from (by have y0 := f_eq c_2; have z0 := hBd; omega)) 0 1)
    generalize hy_3 : (F_L_reason y3_1 0 1) = y9 at hcon hM
    obtain ⟨y13_0, y13_1, y13_2, y13_3⟩ := y9
    have hM : FF9 = (adc (0 + y3_2) (0 + y3_3) (adc y13_2 y13_3 (if y13_0 = a2 then (K_L_is_23 (F_L_reason y13_1 1 0)) else (0, y13_1, 0, 0)))) := hM
    refine kwb_ [] [] (vx_runSW (As := [.ref a0, .int 0, .int 1]) (rest := []) ⟨hx, hb, hml, hown, hts⟩ hcon (vx_cwSW 3 hts gL_is_L_reason rfl rfl rfl (by decide +kernel) ⟨Nat.le_of_ble_eq_true rfl, Nat.le_of_ble_eq_true rfl⟩) ⟨PC_.blind, lw_pre (X := []) (Y := []) hF hK hP hD hS hA⟩ rfl rfl hl.1 rfl (lv_room (Nat.le_of_ble_eq_true rfl)) dL_is_13 ⟨(adc_r1 hM), (adc_s1 hM)⟩) hK hP hD hS hA (fun b_3 H locs hpo hP hD hK hS => ?_)
    have hM : FF9 = (adc ((0 + y3_2) + y13_2) ((0 + y3_3) + y13_3) (if y13_0 = a2 then (K_L_is_23 (F_L_reason y13_1 1 0)) else (0, y13_1, 0, 0))) := hM.trans (adc_adc _ _ _ _ _)
    obtain ⟨hM9_3, hb9_3, hBL_3, hXI_3⟩ := hpo
    have hM9_3 : b_3.2.2.2 = y13_1 := hM9_3
    have hXI_3 : XI Bd y13_1 := hXI_3
    have hP : va_P D vwCl ([] ++ BWW ad b_3) H := hP
    have hD : va_D A ([] ++ BWW ad b_3) := hD
    have hK : va_K D vwCl ([] ++ BWT b_3) s := hK
    refine W.eq (g2 := F0 m 16 ls [.int y13_0]) rfl ?_
    refine lv_iload_n hx hb dL_is_16 rfl (lv_at hl 2 rfl) ?_
    refine lv_icmp_ne (tgt := 48) hx hb dL_is_17 (by decide) (fun c_4 => ?_) (fun c_4 => ?_)
    · rw [if_neg c_4] at hM
      refine lv_iconst (v := 0) hx hb dL_is_48 (by decide) ?_
      refine W.widen (k := (FF9).2.2.1) (n := (FF9).2.2.2) (Nat.le_of_eq (by rw [hM]; first | done | rfl)) (Nat.le_of_eq (by rw [hM]; first | done | rfl)) ?_
      exact W.zret (v := 0) hx hb hr rfl (lw_ret (X := []) (Y := []) b_3 hP hD hK hS (by rw [hM]; first | done | rfl) ⟨(by rw [hM]; exact hM9_3), hb9_3, hBL_3, (by rw [hM]; exact XI.mono hXI_3 (show Bd ≤ Bd + 0 from (by have y0 := f_eq c_2; have z0 := hBd; omega)))⟩) hS.2.2 dL_is_49
    · rw [if_pos c_4] at hM
      refine lv_aload_n hx hb dL_is_20 rfl (lv_at hl 0 rfl) ?_
      refine lv_iconst (v := 1) hx hb dL_is_21 (by decide) ?_
      refine lv_iconst (v := 0) hx hb dL_is_22 (by decide) ?_
      have hcon := (bl_L_reason l hl0 D ad H.size b_3 hBL_3 a0 hb9_3 y13_1 hM9_3 Bd hXI_3 (show Bd ≤ 900000 from (by have y0 := f_eq c_2; have y1 := f_eq c_4; have z0 := hBd; omega)) 1 0)
      generalize hy_5 : (F_L_reason y13_1 1 0) = y9 at hcon hM
      obtain ⟨y23_0, y23_1, y23_2, y23_3⟩ := y9
      have hM : FF9 = (adc ((0 + y3_2) + y13_2) ((0 + y3_3) + y13_3) (adc y23_2 y23_3 (if y23_0 = (-1001) then (K_L_is_35 (F_L_reason y23_1 1 1)) else (0, y23_1, 0, 0)))) := hM
      refine kwb_ [] [] (vx_runSW (As := [.ref a0, .int 1, .int 0]) (rest := []) ⟨hx, hb, hml, hown, hts⟩ hcon (vx_cwSW 3 hts gL_is_L_reason rfl rfl rfl (by decide +kernel) ⟨Nat.le_of_ble_eq_true rfl, Nat.le_of_ble_eq_true rfl⟩) ⟨PC_.blind, lw_pre (X := []) (Y := []) hF hK hP hD hS hA⟩ rfl rfl hl.1 rfl (lv_room (Nat.le_of_ble_eq_true rfl)) dL_is_23 ⟨(adc_r1 hM), (adc_s1 hM)⟩) hK hP hD hS hA (fun b_5 H locs hpo hP hD hK hS => ?_)
      have hM : FF9 = (adc (((0 + y3_2) + y13_2) + y23_2) (((0 + y3_3) + y13_3) + y23_3) (if y23_0 = (-1001) then (K_L_is_35 (F_L_reason y23_1 1 1)) else (0, y23_1, 0, 0))) := hM.trans (adc_adc _ _ _ _ _)
      obtain ⟨hM9_5, hb9_5, hBL_5, hXI_5⟩ := hpo
      have hM9_5 : b_5.2.2.2 = y23_1 := hM9_5
      have hXI_5 : XI Bd y23_1 := hXI_5
      have hP : va_P D vwCl ([] ++ BWW ad b_5) H := hP
      have hD : va_D A ([] ++ BWW ad b_5) := hD
      have hK : va_K D vwCl ([] ++ BWT b_5) s := hK
      refine W.eq (g2 := F0 m 26 ls [.int y23_0]) rfl ?_
      refine lv_sipush (v := (-1001)) hx hb dL_is_26 (by decide +kernel) ?_
      refine lv_icmp_ne (tgt := 48) hx hb dL_is_29 (by decide) (fun c_6 => ?_) (fun c_6 => ?_)
      · rw [if_neg c_6] at hM
        refine lv_iconst (v := 0) hx hb dL_is_48 (by decide) ?_
        refine W.widen (k := (FF9).2.2.1) (n := (FF9).2.2.2) (Nat.le_of_eq (by rw [hM]; first | done | rfl)) (Nat.le_of_eq (by rw [hM]; first | done | rfl)) ?_
        exact W.zret (v := 0) hx hb hr rfl (lw_ret (X := []) (Y := []) b_5 hP hD hK hS (by rw [hM]; first | done | rfl) ⟨(by rw [hM]; exact hM9_5), hb9_5, hBL_5, (by rw [hM]; exact XI.mono hXI_5 (show Bd ≤ Bd + 0 from (by have y0 := f_eq c_2; have y1 := f_eq c_4; have y2 := f_neq c_6; have z0 := hBd; have e_m1001 : (-1001 : Int32).toInt = -1001 := (by decide +kernel); omega)))⟩) hS.2.2 dL_is_49
      · rw [if_pos c_6] at hM
        refine lv_aload_n hx hb dL_is_32 rfl (lv_at hl 0 rfl) ?_
        refine lv_iconst (v := 1) hx hb dL_is_33 (by decide) ?_
        refine lv_iconst (v := 1) hx hb dL_is_34 (by decide) ?_
        have hcon := (bl_L_reason l hl0 D ad H.size b_5 hBL_5 a0 hb9_5 y23_1 hM9_5 Bd hXI_5 (show Bd ≤ 900000 from (by have y0 := f_eq c_2; have y1 := f_eq c_4; have y2 := f_eq c_6; have z0 := hBd; have e_m1001 : (-1001 : Int32).toInt = -1001 := (by decide +kernel); omega)) 1 1)
        generalize hy_7 : (F_L_reason y23_1 1 1) = y9 at hcon hM
        obtain ⟨y35_0, y35_1, y35_2, y35_3⟩ := y9
        have hM : FF9 = (adc (((0 + y3_2) + y13_2) + y23_2) (((0 + y3_3) + y13_3) + y23_3) (adc y35_2 y35_3 (if y35_0 = (-1001) then (1, y35_1, 0, 0) else (0, y35_1, 0, 0)))) := hM
        refine kwb_ [] [] (vx_runSW (As := [.ref a0, .int 1, .int 1]) (rest := []) ⟨hx, hb, hml, hown, hts⟩ hcon (vx_cwSW 3 hts gL_is_L_reason rfl rfl rfl (by decide +kernel) ⟨Nat.le_of_ble_eq_true rfl, Nat.le_of_ble_eq_true rfl⟩) ⟨PC_.blind, lw_pre (X := []) (Y := []) hF hK hP hD hS hA⟩ rfl rfl hl.1 rfl (lv_room (Nat.le_of_ble_eq_true rfl)) dL_is_35 ⟨(adc_r1 hM), (adc_s1 hM)⟩) hK hP hD hS hA (fun b_7 H locs hpo hP hD hK hS => ?_)
        have hM : FF9 = (adc ((((0 + y3_2) + y13_2) + y23_2) + y35_2) ((((0 + y3_3) + y13_3) + y23_3) + y35_3) (if y35_0 = (-1001) then (1, y35_1, 0, 0) else (0, y35_1, 0, 0))) := hM.trans (adc_adc _ _ _ _ _)
        obtain ⟨hM9_7, hb9_7, hBL_7, hXI_7⟩ := hpo
        have hM9_7 : b_7.2.2.2 = y35_1 := hM9_7
        have hXI_7 : XI Bd y35_1 := hXI_7
        have hP : va_P D vwCl ([] ++ BWW ad b_7) H := hP
        have hD : va_D A ([] ++ BWW ad b_7) := hD
        have hK : va_K D vwCl ([] ++ BWT b_7) s := hK
        refine W.eq (g2 := F0 m 38 ls [.int y35_0]) rfl ?_
        refine lv_sipush (v := (-1001)) hx hb dL_is_38 (by decide +kernel) ?_
        refine lv_icmp_ne (tgt := 48) hx hb dL_is_41 (by decide) (fun c_8 => ?_) (fun c_8 => ?_)
        · rw [if_neg c_8] at hM
          refine lv_iconst (v := 0) hx hb dL_is_48 (by decide) ?_
          refine W.widen (k := (FF9).2.2.1) (n := (FF9).2.2.2) (Nat.le_of_eq (by rw [hM]; first | done | rfl)) (Nat.le_of_eq (by rw [hM]; first | done | rfl)) ?_
          exact W.zret (v := 0) hx hb hr rfl (lw_ret (X := []) (Y := []) b_7 hP hD hK hS (by rw [hM]; first | done | rfl) ⟨(by rw [hM]; exact hM9_7), hb9_7, hBL_7, (by rw [hM]; exact XI.mono hXI_7 (show Bd ≤ Bd + 0 from (by have y0 := f_eq c_2; have y1 := f_eq c_4; have y2 := f_eq c_6; have y3 := f_neq c_8; have z0 := hBd; have e_m1001 : (-1001 : Int32).toInt = -1001 := (by decide +kernel); omega)))⟩) hS.2.2 dL_is_49
        · rw [if_pos c_8] at hM
          refine lv_iconst (v := 1) hx hb dL_is_44 (by decide) ?_
          refine lv_goto (tgt := 49) hx hb dL_is_45 (by decide) ?_
          refine W.widen (k := (FF9).2.2.1) (n := (FF9).2.2.2) (Nat.le_of_eq (by rw [hM]; first | done | rfl)) (Nat.le_of_eq (by rw [hM]; first | done | rfl)) ?_
          exact W.zret (v := 1) hx hb hr rfl (lw_ret (X := []) (Y := []) b_7 hP hD hK hS (by rw [hM]; first | done | rfl) ⟨(by rw [hM]; exact hM9_7), hb9_7, hBL_7, (by rw [hM]; exact XI.mono hXI_7 (show Bd ≤ Bd + 0 from (by have y0 := f_eq c_2; have y1 := f_eq c_4; have y2 := f_eq c_6; have y3 := f_eq c_8; have z0 := hBd; have e_m1001 : (-1001 : Int32).toInt = -1001 := (by decide +kernel); omega)))⟩) hS.2.2 dL_is_49
def K_L_isEight_34 (a3 : Int32) : (Int32 × MS × Nat × Nat) → (Int32 × MS × Nat × Nat)
  | (y34_0, y34_1, y34_2, y34_3) => (adc y34_2 y34_3 (if y34_0 = a3 then (1, y34_1, 0, 0) else (0, y34_1, 0, 0)))
def K_L_isEight_24 (a2 : Int32) (a3 : Int32) : (Int32 × MS × Nat × Nat) → (Int32 × MS × Nat × Nat)
  | (y24_0, y24_1, y24_2, y24_3) => (adc y24_2 y24_3 (if y24_0 = a2 then (K_L_isEight_34 a3 (F_L_reason y24_1 1 1)) else (0, y24_1, 0, 0)))
def K_L_isEight_14 (a1 : Int32) (a2 : Int32) (a3 : Int32) : (Int32 × MS × Nat × Nat) → (Int32 × MS × Nat × Nat)
  | (y14_0, y14_1, y14_2, y14_3) => (adc y14_2 y14_3 (if y14_0 = a1 then (K_L_isEight_24 a2 a3 (F_L_reason y14_1 1 0)) else (0, y14_1, 0, 0)))
def K_L_isEight_3 (a1 : Int32) (a2 : Int32) (a3 : Int32) : (Int32 × MS × Nat × Nat) → (Int32 × MS × Nat × Nat)
  | (y3_0, y3_1, y3_2, y3_3) => (adc y3_2 y3_3 (if y3_0 = 8 then (K_L_isEight_14 a1 a2 a3 (F_L_reason y3_1 0 1)) else (0, y3_1, 0, 0)))
def F_L_isEight (M : MS) (a1 : Int32) (a2 : Int32) (a3 : Int32) : Int32 × MS × Nat × Nat := (K_L_isEight_3 a1 a2 a3 (F_L_reason M 0 0))
set_option maxHeartbeats 4000000 in
set_option maxRecDepth 100000 in
theorem bl_L_isEight (l : Launch) (hl0 : l.stackTraces = false) (D : va_G) (ad : Nat → Nat) (sz : Nat) (b : BX) (hBL : BL_ b) (a0 : Nat) (hb9 : b.1 79 = a0) (M : MS) (hM9 : b.2.2.2 = M) (Bd : Nat) (hXI : XI Bd M) (hBd : Bd + 0 ≤ 900000) (a1 : Int32) (a2 : Int32) (a3 : Int32) : Met l yL_isEight wsL_isEight ({ frames := 8, cells := (F_L_isEight M a1 a2 a3).2.2.1, slots := (F_L_isEight M a1 a2 a3).2.2.2, locals := 150 }) (PC_ D ad (BWW ad b) (BWT b) sz [.ref a0, .int a1, .int a2, .int a3]) (QB_ D (fun _ : BX => some (.int (F_L_isEight M a1 a2 a3).1)) (fun b' => b'.2.2.2 = (F_L_isEight M a1 a2 a3).2.1 ∧ b'.1 79 = a0 ∧ BL_ b' ∧ XI (Bd + 0) (F_L_isEight M a1 a2 a3).2.1) (BWW ad) BWT (va_A (BWW ad b) sz)) (F_L_isEight M a1 a2 a3).2.2.1 (F_L_isEight M a1 a2 a3).2.2.2 (va_A (BWW ad b) sz) := by
  refine Met.ofW (cc := cL_isEight) (maxL := 4) (ret := (some .boolean)) (by decide) rfl ?_
  intro p e s m args below meth c s₁ B hml hv
  obtain ⟨rfl, hsz, hP, hK, hD0, hF⟩ := hv
  have hx := B.exec
  have hb := B.bytes
  have hr := B.returns
  have hts := atoms_spec (ws := wsL_isEight) B.pre
  have hown : s.vm.findClass RL = some m.cls := findClass_of_methodNamed B.named
  have hlocks := B.notSynchronized
  subst hsz
  have hD := hD0.self (sz := s.heap.size)
  generalize hAe : va_A (BWW ad b) s.heap.size = A at hD hF ⊢
  have hA : ∀ q : Nat, s.heap.size ≤ q → A q := fun q h => by rw [← hAe]; exact Or.inr h
  obtain ⟨H, hHe⟩ : ∃ H : Heap, H = s.heap := ⟨_, rfl⟩
  have hS : va_S A s.heap H [] := by rw [hHe]; exact va_S.rf
  have hP : va_P D vwCl ([] ++ BWW ad b) H := by rw [hHe]; exact hP
  have hD : va_D A ([] ++ BWW ad b) := hD
  have hK : va_K D vwCl ([] ++ BWT b) s := hK
  rw [← hHe]
  have hl := lv_entry [.ref a0, .int a1, .int a2, .int a3] (n := 4) (Nat.le_of_ble_eq_true rfl)
  rw [lg_entry_eq]
  generalize (lg_sl [.ref a0, .int a1, .int a2, .int a3] ++ List.replicate (4 - (lg_sl [.ref a0, .int a1, .int a2, .int a3]).length) Slot.unset).toArray = ls at hl ⊢
  have hl : lv_has ls 4 [(0, .ref a0), (1, .int a1), (2, .int a2), (3, .int a3)] := hl
  generalize hF9 : F_L_isEight M a1 a2 a3 = FF9
  have hM : FF9 = (adc 0 0 (K_L_isEight_3 a1 a2 a3 (F_L_reason M 0 0))) := hF9.symm.trans (adc_0 _).symm
  refine lv_aload_n hx hb dL_isEight_0 rfl (lv_at hl 0 rfl) ?_
  refine lv_iconst (v := 0) hx hb dL_isEight_1 (by decide) ?_
  refine lv_iconst (v := 0) hx hb dL_isEight_2 (by decide) ?_
  have hcon := (bl_L_reason l hl0 D ad H.size b hBL a0 hb9 M hM9 Bd hXI (show Bd ≤ 900000 from (by have z0 := hBd; omega)) 0 0)
  generalize hy_1 : (F_L_reason M 0 0) = y9 at hcon hM
  obtain ⟨y3_0, y3_1, y3_2, y3_3⟩ := y9
  have hM : FF9 = (adc 0 0 (adc y3_2 y3_3 (if y3_0 = 8 then (K_L_isEight_14 a1 a2 a3 (F_L_reason y3_1 0 1)) else (0, y3_1, 0, 0)))) := hM
  refine kwb_ [] [] (vx_runSW (As := [.ref a0, .int 0, .int 0]) (rest := []) ⟨hx, hb, hml, hown, hts⟩ hcon (vx_cwSW 3 hts gL_isEight_L_reason rfl rfl rfl (by decide +kernel) ⟨Nat.le_of_ble_eq_true rfl, Nat.le_of_ble_eq_true rfl⟩) ⟨PC_.blind, lw_pre (X := []) (Y := []) hF hK hP hD hS hA⟩ rfl rfl hl.1 rfl (lv_room (Nat.le_of_ble_eq_true rfl)) dL_isEight_3 ⟨(adc_r1 hM), (adc_s1 hM)⟩) hK hP hD hS hA (fun b_1 H locs hpo hP hD hK hS => ?_)
  have hM : FF9 = (adc (0 + y3_2) (0 + y3_3) (if y3_0 = 8 then (K_L_isEight_14 a1 a2 a3 (F_L_reason y3_1 0 1)) else (0, y3_1, 0, 0))) := hM.trans (adc_adc _ _ _ _ _)
  obtain ⟨hM9_1, hb9_1, hBL_1, hXI_1⟩ := hpo
  have hM9_1 : b_1.2.2.2 = y3_1 := hM9_1
  have hXI_1 : XI Bd y3_1 := hXI_1
  have hP : va_P D vwCl ([] ++ BWW ad b_1) H := hP
  have hD : va_D A ([] ++ BWW ad b_1) := hD
  have hK : va_K D vwCl ([] ++ BWT b_1) s := hK
  refine W.eq (g2 := F0 m 6 ls [.int y3_0]) rfl ?_
  refine lv_bipush (v := 8) hx hb dL_isEight_6 (by decide) ?_
  refine lv_icmp_ne (tgt := 45) hx hb dL_isEight_8 (by decide) (fun c_2 => ?_) (fun c_2 => ?_)
  · rw [if_neg c_2] at hM
    refine lv_iconst (v := 0) hx hb dL_isEight_45 (by decide) ?_
    refine W.widen (k := (FF9).2.2.1) (n := (FF9).2.2.2) (Nat.le_of_eq (by rw [hM]; first | done | rfl)) (Nat.le_of_eq (by rw [hM]; first | done | rfl)) ?_
    exact W.zret (v := 0) hx hb hr rfl (lw_ret (X := []) (Y := []) b_1 hP hD hK hS (by rw [hM]; first | done | rfl) ⟨(by rw [hM]; exact hM9_1), hb9_1, hBL_1, (by rw [hM]; exact XI.mono hXI_1 (show Bd ≤ Bd + 0 from (by have y0 := f_neq c_2; have z0 := hBd; have e_8 : (8 : Int32).toInt = 8 := (by decide +kernel); omega)))⟩) hS.2.2 dL_isEight_46
  · rw [if_pos c_2] at hM
    refine lv_aload_n hx hb dL_isEight_11 rfl (lv_at hl 0 rfl) ?_
    refine lv_iconst (v := 0) hx hb dL_isEight_12 (by decide) ?_
    refine lv_iconst (v := 1) hx hb dL_isEight_13 (by decide) ?_
    have hcon := (bl_L_reason l hl0 D ad H.size b_1 hBL_1 a0 hb9_1 y3_1 hM9_1 Bd hXI_1 (show Bd ≤ 900000 from (by have y0 := f_eq c_2; have z0 := hBd; have e_8 : (8 : Int32).toInt = 8 := (by decide +kernel); omega)) 0 1)
    generalize hy_3 : (F_L_reason y3_1 0 1) = y9 at hcon hM
    obtain ⟨y14_0, y14_1, y14_2, y14_3⟩ := y9
    have hM : FF9 = (adc (0 + y3_2) (0 + y3_3) (adc y14_2 y14_3 (if y14_0 = a1 then (K_L_isEight_24 a2 a3 (F_L_reason y14_1 1 0)) else (0, y14_1, 0, 0)))) := hM
    refine kwb_ [] [] (vx_runSW (As := [.ref a0, .int 0, .int 1]) (rest := []) ⟨hx, hb, hml, hown, hts⟩ hcon (vx_cwSW 3 hts gL_isEight_L_reason rfl rfl rfl (by decide +kernel) ⟨Nat.le_of_ble_eq_true rfl, Nat.le_of_ble_eq_true rfl⟩) ⟨PC_.blind, lw_pre (X := []) (Y := []) hF hK hP hD hS hA⟩ rfl rfl hl.1 rfl (lv_room (Nat.le_of_ble_eq_true rfl)) dL_isEight_14 ⟨(adc_r1 hM), (adc_s1 hM)⟩) hK hP hD hS hA (fun b_3 H locs hpo hP hD hK hS => ?_)
    have hM : FF9 = (adc ((0 + y3_2) + y14_2) ((0 + y3_3) + y14_3) (if y14_0 = a1 then (K_L_isEight_24 a2 a3 (F_L_reason y14_1 1 0)) else (0, y14_1, 0, 0))) := hM.trans (adc_adc _ _ _ _ _)
    obtain ⟨hM9_3, hb9_3, hBL_3, hXI_3⟩ := hpo
    have hM9_3 : b_3.2.2.2 = y14_1 := hM9_3
    have hXI_3 : XI Bd y14_1 := hXI_3
    have hP : va_P D vwCl ([] ++ BWW ad b_3) H := hP
    have hD : va_D A ([] ++ BWW ad b_3) := hD
    have hK : va_K D vwCl ([] ++ BWT b_3) s := hK
    refine W.eq (g2 := F0 m 17 ls [.int y14_0]) rfl ?_
    refine lv_iload_n hx hb dL_isEight_17 rfl (lv_at hl 1 rfl) ?_
    refine lv_icmp_ne (tgt := 45) hx hb dL_isEight_18 (by decide) (fun c_4 => ?_) (fun c_4 => ?_)
    · rw [if_neg c_4] at hM
      refine lv_iconst (v := 0) hx hb dL_isEight_45 (by decide) ?_
      refine W.widen (k := (FF9).2.2.1) (n := (FF9).2.2.2) (Nat.le_of_eq (by rw [hM]; first | done | rfl)) (Nat.le_of_eq (by rw [hM]; first | done | rfl)) ?_
      exact W.zret (v := 0) hx hb hr rfl (lw_ret (X := []) (Y := []) b_3 hP hD hK hS (by rw [hM]; first | done | rfl) ⟨(by rw [hM]; exact hM9_3), hb9_3, hBL_3, (by rw [hM]; exact XI.mono hXI_3 (show Bd ≤ Bd + 0 from (by have y0 := f_eq c_2; have z0 := hBd; have e_8 : (8 : Int32).toInt = 8 := (by decide +kernel); omega)))⟩) hS.2.2 dL_isEight_46
    · rw [if_pos c_4] at hM
      refine lv_aload_n hx hb dL_isEight_21 rfl (lv_at hl 0 rfl) ?_
      refine lv_iconst (v := 1) hx hb dL_isEight_22 (by decide) ?_
      refine lv_iconst (v := 0) hx hb dL_isEight_23 (by decide) ?_
      have hcon := (bl_L_reason l hl0 D ad H.size b_3 hBL_3 a0 hb9_3 y14_1 hM9_3 Bd hXI_3 (show Bd ≤ 900000 from (by have y0 := f_eq c_2; have y1 := f_eq c_4; have z0 := hBd; have e_8 : (8 : Int32).toInt = 8 := (by decide +kernel); omega)) 1 0)
      generalize hy_5 : (F_L_reason y14_1 1 0) = y9 at hcon hM
      obtain ⟨y24_0, y24_1, y24_2, y24_3⟩ := y9
      have hM : FF9 = (adc ((0 + y3_2) + y14_2) ((0 + y3_3) + y14_3) (adc y24_2 y24_3 (if y24_0 = a2 then (K_L_isEight_34 a3 (F_L_reason y24_1 1 1)) else (0, y24_1, 0, 0)))) := hM
      refine kwb_ [] [] (vx_runSW (As := [.ref a0, .int 1, .int 0]) (rest := []) ⟨hx, hb, hml, hown, hts⟩ hcon (vx_cwSW 3 hts gL_isEight_L_reason rfl rfl rfl (by decide +kernel) ⟨Nat.le_of_ble_eq_true rfl, Nat.le_of_ble_eq_true rfl⟩) ⟨PC_.blind, lw_pre (X := []) (Y := []) hF hK hP hD hS hA⟩ rfl rfl hl.1 rfl (lv_room (Nat.le_of_ble_eq_true rfl)) dL_isEight_24 ⟨(adc_r1 hM), (adc_s1 hM)⟩) hK hP hD hS hA (fun b_5 H locs hpo hP hD hK hS => ?_)
      have hM : FF9 = (adc (((0 + y3_2) + y14_2) + y24_2) (((0 + y3_3) + y14_3) + y24_3) (if y24_0 = a2 then (K_L_isEight_34 a3 (F_L_reason y24_1 1 1)) else (0, y24_1, 0, 0))) := hM.trans (adc_adc _ _ _ _ _)
      obtain ⟨hM9_5, hb9_5, hBL_5, hXI_5⟩ := hpo
      have hM9_5 : b_5.2.2.2 = y24_1 := hM9_5
      have hXI_5 : XI Bd y24_1 := hXI_5
      have hP : va_P D vwCl ([] ++ BWW ad b_5) H := hP
      have hD : va_D A ([] ++ BWW ad b_5) := hD
      have hK : va_K D vwCl ([] ++ BWT b_5) s := hK
      refine W.eq (g2 := F0 m 27 ls [.int y24_0]) rfl ?_
      refine lv_iload_n hx hb dL_isEight_27 rfl (lv_at hl 2 rfl) ?_
      refine lv_icmp_ne (tgt := 45) hx hb dL_isEight_28 (by decide) (fun c_6 => ?_) (fun c_6 => ?_)
      · rw [if_neg c_6] at hM
        refine lv_iconst (v := 0) hx hb dL_isEight_45 (by decide) ?_
        refine W.widen (k := (FF9).2.2.1) (n := (FF9).2.2.2) (Nat.le_of_eq (by rw [hM]; first | done | rfl)) (Nat.le_of_eq (by rw [hM]; first | done | rfl)) ?_
        exact W.zret (v := 0) hx hb hr rfl (lw_ret (X := []) (Y := []) b_5 hP hD hK hS (by rw [hM]; first | done | rfl) ⟨(by rw [hM]; exact hM9_5), hb9_5, hBL_5, (by rw [hM]; exact XI.mono hXI_5 (show Bd ≤ Bd + 0 from (by have y0 := f_eq c_2; have y1 := f_eq c_4; have z0 := hBd; have e_8 : (8 : Int32).toInt = 8 := (by decide +kernel); omega)))⟩) hS.2.2 dL_isEight_46
      · rw [if_pos c_6] at hM
        refine lv_aload_n hx hb dL_isEight_31 rfl (lv_at hl 0 rfl) ?_
        refine lv_iconst (v := 1) hx hb dL_isEight_32 (by decide) ?_
        refine lv_iconst (v := 1) hx hb dL_isEight_33 (by decide) ?_
        have hcon := (bl_L_reason l hl0 D ad H.size b_5 hBL_5 a0 hb9_5 y24_1 hM9_5 Bd hXI_5 (show Bd ≤ 900000 from (by have y0 := f_eq c_2; have y1 := f_eq c_4; have y2 := f_eq c_6; have z0 := hBd; have e_8 : (8 : Int32).toInt = 8 := (by decide +kernel); omega)) 1 1)
        generalize hy_7 : (F_L_reason y24_1 1 1) = y9 at hcon hM
        obtain ⟨y34_0, y34_1, y34_2, y34_3⟩ := y9
        have hM : FF9 = (adc (((0 + y3_2) + y14_2) + y24_2) (((0 + y3_3) + y14_3) + y24_3) (adc y34_2 y34_3 (if y34_0 = a3 then (1, y34_1, 0, 0) else (0, y34_1, 0, 0)))) := hM
        refine kwb_ [] [] (vx_runSW (As := [.ref a0, .int 1, .int 1]) (rest := []) ⟨hx, hb, hml, hown, hts⟩ hcon (vx_cwSW 3 hts gL_isEight_L_reason rfl rfl rfl (by decide +kernel) ⟨Nat.le_of_ble_eq_true rfl, Nat.le_of_ble_eq_true rfl⟩) ⟨PC_.blind, lw_pre (X := []) (Y := []) hF hK hP hD hS hA⟩ rfl rfl hl.1 rfl (lv_room (Nat.le_of_ble_eq_true rfl)) dL_isEight_34 ⟨(adc_r1 hM), (adc_s1 hM)⟩) hK hP hD hS hA (fun b_7 H locs hpo hP hD hK hS => ?_)
        have hM : FF9 = (adc ((((0 + y3_2) + y14_2) + y24_2) + y34_2) ((((0 + y3_3) + y14_3) + y24_3) + y34_3) (if y34_0 = a3 then (1, y34_1, 0, 0) else (0, y34_1, 0, 0))) := hM.trans (adc_adc _ _ _ _ _)
        obtain ⟨hM9_7, hb9_7, hBL_7, hXI_7⟩ := hpo
        have hM9_7 : b_7.2.2.2 = y34_1 := hM9_7
        have hXI_7 : XI Bd y34_1 := hXI_7
        have hP : va_P D vwCl ([] ++ BWW ad b_7) H := hP
        have hD : va_D A ([] ++ BWW ad b_7) := hD
        have hK : va_K D vwCl ([] ++ BWT b_7) s := hK
        refine W.eq (g2 := F0 m 37 ls [.int y34_0]) rfl ?_
        refine lv_iload_n hx hb dL_isEight_37 rfl (lv_at hl 3 rfl) ?_
        refine lv_icmp_ne (tgt := 45) hx hb dL_isEight_38 (by decide) (fun c_8 => ?_) (fun c_8 => ?_)
        · rw [if_neg c_8] at hM
          refine lv_iconst (v := 0) hx hb dL_isEight_45 (by decide) ?_
          refine W.widen (k := (FF9).2.2.1) (n := (FF9).2.2.2) (Nat.le_of_eq (by rw [hM]; first | done | rfl)) (Nat.le_of_eq (by rw [hM]; first | done | rfl)) ?_
          exact W.zret (v := 0) hx hb hr rfl (lw_ret (X := []) (Y := []) b_7 hP hD hK hS (by rw [hM]; first | done | rfl) ⟨(by rw [hM]; exact hM9_7), hb9_7, hBL_7, (by rw [hM]; exact XI.mono hXI_7 (show Bd ≤ Bd + 0 from (by have y0 := f_eq c_2; have y1 := f_eq c_4; have y2 := f_eq c_6; have z0 := hBd; have e_8 : (8 : Int32).toInt = 8 := (by decide +kernel); omega)))⟩) hS.2.2 dL_isEight_46
        · rw [if_pos c_8] at hM
          refine lv_iconst (v := 1) hx hb dL_isEight_41 (by decide) ?_
          refine lv_goto (tgt := 46) hx hb dL_isEight_42 (by decide) ?_
          refine W.widen (k := (FF9).2.2.1) (n := (FF9).2.2.2) (Nat.le_of_eq (by rw [hM]; first | done | rfl)) (Nat.le_of_eq (by rw [hM]; first | done | rfl)) ?_
          exact W.zret (v := 1) hx hb hr rfl (lw_ret (X := []) (Y := []) b_7 hP hD hK hS (by rw [hM]; first | done | rfl) ⟨(by rw [hM]; exact hM9_7), hb9_7, hBL_7, (by rw [hM]; exact XI.mono hXI_7 (show Bd ≤ Bd + 0 from (by have y0 := f_eq c_2; have y1 := f_eq c_4; have y2 := f_eq c_6; have y3 := f_eq c_8; have z0 := hBd; have e_8 : (8 : Int32).toInt = 8 := (by decide +kernel); omega)))⟩) hS.2.2 dL_isEight_46
def K_L_isRange_10  : (Int32 × MS × Nat × Nat) → (Int32 × MS × Nat × Nat)
  | (y10_0, y10_1, y10_2, y10_3) => (adc y10_2 y10_3 (if y10_0 = 0 then (0, y10_1, 0, 0) else (1, y10_1, 0, 0)))
def F_L_isRange (M : MS) (a1 : Int32) : Int32 × MS × Nat × Nat := (if a1 = (-1001) then (K_L_isRange_10 (F_L_is M 1 0)) else (0, M, 0, 0))
set_option maxHeartbeats 4000000 in
set_option maxRecDepth 100000 in
theorem bl_L_isRange (l : Launch) (hl0 : l.stackTraces = false) (D : va_G) (ad : Nat → Nat) (sz : Nat) (b : BX) (hBL : BL_ b) (a0 : Nat) (hb9 : b.1 79 = a0) (M : MS) (hM9 : b.2.2.2 = M) (Bd : Nat) (hXI : XI Bd M) (hBd : Bd + 0 ≤ 900000) (a1 : Int32) : Met l yL_isRange wsL_isRange ({ frames := 9, cells := (F_L_isRange M a1).2.2.1, slots := (F_L_isRange M a1).2.2.2, locals := 174 }) (PC_ D ad (BWW ad b) (BWT b) sz [.ref a0, .int a1]) (QB_ D (fun _ : BX => some (.int (F_L_isRange M a1).1)) (fun b' => b'.2.2.2 = (F_L_isRange M a1).2.1 ∧ b'.1 79 = a0 ∧ BL_ b' ∧ XI (Bd + 0) (F_L_isRange M a1).2.1) (BWW ad) BWT (va_A (BWW ad b) sz)) (F_L_isRange M a1).2.2.1 (F_L_isRange M a1).2.2.2 (va_A (BWW ad b) sz) := by
  refine Met.ofW (cc := cL_isRange) (maxL := 2) (ret := (some .boolean)) (by decide) rfl ?_
  intro p e s m args below meth c s₁ B hml hv
  obtain ⟨rfl, hsz, hP, hK, hD0, hF⟩ := hv
  have hx := B.exec
  have hb := B.bytes
  have hr := B.returns
  have hts := atoms_spec (ws := wsL_isRange) B.pre
  have hown : s.vm.findClass RL = some m.cls := findClass_of_methodNamed B.named
  have hlocks := B.notSynchronized
  subst hsz
  have hD := hD0.self (sz := s.heap.size)
  generalize hAe : va_A (BWW ad b) s.heap.size = A at hD hF ⊢
  have hA : ∀ q : Nat, s.heap.size ≤ q → A q := fun q h => by rw [← hAe]; exact Or.inr h
  obtain ⟨H, hHe⟩ : ∃ H : Heap, H = s.heap := ⟨_, rfl⟩
  have hS : va_S A s.heap H [] := by rw [hHe]; exact va_S.rf
  have hP : va_P D vwCl ([] ++ BWW ad b) H := by rw [hHe]; exact hP
  have hD : va_D A ([] ++ BWW ad b) := hD
  have hK : va_K D vwCl ([] ++ BWT b) s := hK
  rw [← hHe]
  have hl := lv_entry [.ref a0, .int a1] (n := 2) (Nat.le_of_ble_eq_true rfl)
  rw [lg_entry_eq]
  generalize (lg_sl [.ref a0, .int a1] ++ List.replicate (2 - (lg_sl [.ref a0, .int a1]).length) Slot.unset).toArray = ls at hl ⊢
  have hl : lv_has ls 2 [(0, .ref a0), (1, .int a1)] := hl
  generalize hF9 : F_L_isRange M a1 = FF9
  have hM : FF9 = (adc 0 0 (if a1 = (-1001) then (K_L_isRange_10 (F_L_is M 1 0)) else (0, M, 0, 0))) := hF9.symm.trans (adc_0 _).symm
  refine lv_iload_n hx hb dL_isRange_0 rfl (lv_at hl 1 rfl) ?_
  refine lv_sipush (v := (-1001)) hx hb dL_isRange_1 (by decide +kernel) ?_
  refine lv_icmp_ne (tgt := 20) hx hb dL_isRange_4 (by decide) (fun c_1 => ?_) (fun c_1 => ?_)
  · rw [if_neg c_1] at hM
    refine lv_iconst (v := 0) hx hb dL_isRange_20 (by decide) ?_
    refine W.widen (k := (FF9).2.2.1) (n := (FF9).2.2.2) (Nat.le_of_eq (by rw [hM]; first | done | rfl)) (Nat.le_of_eq (by rw [hM]; first | done | rfl)) ?_
    exact W.zret (v := 0) hx hb hr rfl (lw_ret (X := []) (Y := []) b hP hD hK hS (by rw [hM]; first | done | rfl) ⟨(by rw [hM]; exact hM9), hb9, hBL, (by rw [hM]; exact XI.mono hXI (show Bd ≤ Bd + 0 from (by have y0 := f_neq c_1; have z0 := hBd; have e_m1001 : (-1001 : Int32).toInt = -1001 := (by decide +kernel); omega)))⟩) hS.2.2 dL_isRange_21
  · rw [if_pos c_1] at hM
    refine lv_aload_n hx hb dL_isRange_7 rfl (lv_at hl 0 rfl) ?_
    refine lv_iconst (v := 1) hx hb dL_isRange_8 (by decide) ?_
    refine lv_iconst (v := 0) hx hb dL_isRange_9 (by decide) ?_
    have hcon := (bl_L_is l hl0 D ad H.size b hBL a0 hb9 M hM9 Bd hXI (show Bd ≤ 900000 from (by have y0 := f_eq c_1; have z0 := hBd; have e_m1001 : (-1001 : Int32).toInt = -1001 := (by decide +kernel); omega)) 1 0)
    generalize hy_2 : (F_L_is M 1 0) = y9 at hcon hM
    obtain ⟨y10_0, y10_1, y10_2, y10_3⟩ := y9
    have hM : FF9 = (adc 0 0 (adc y10_2 y10_3 (if y10_0 = 0 then (0, y10_1, 0, 0) else (1, y10_1, 0, 0)))) := hM
    refine kwb_ [] [] (va_runS (As := [.ref a0, .int 1, .int 0]) (rest := []) ⟨hx, hb, hml, hown, hts⟩ hcon (va_cwS 3 hts gL_isRange_L_is rfl rfl rfl (by decide +kernel) ⟨Nat.le_of_ble_eq_true rfl, Nat.le_of_ble_eq_true rfl⟩) ⟨PC_.blind, lw_pre (X := []) (Y := []) hF hK hP hD hS hA⟩ rfl rfl hl.1 rfl (lv_room (Nat.le_of_ble_eq_true rfl)) dL_isRange_10 ⟨(adc_r1 hM), (adc_s1 hM)⟩) hK hP hD hS hA (fun b_2 H locs hpo hP hD hK hS => ?_)
    have hM : FF9 = (adc (0 + y10_2) (0 + y10_3) (if y10_0 = 0 then (0, y10_1, 0, 0) else (1, y10_1, 0, 0))) := hM.trans (adc_adc _ _ _ _ _)
    obtain ⟨hM9_2, hb9_2, hBL_2, hXI_2⟩ := hpo
    have hM9_2 : b_2.2.2.2 = y10_1 := hM9_2
    have hXI_2 : XI Bd y10_1 := hXI_2
    have hP : va_P D vwCl ([] ++ BWW ad b_2) H := hP
    have hD : va_D A ([] ++ BWW ad b_2) := hD
    have hK : va_K D vwCl ([] ++ BWT b_2) s := hK
    refine W.eq (g2 := F0 m 13 ls [.int y10_0]) rfl ?_
    refine lv_if_eq (tgt := 20) hx hb dL_isRange_13 (by decide) (fun c_3 => ?_) (fun c_3 => ?_)
    · rw [if_pos c_3] at hM
      refine lv_iconst (v := 0) hx hb dL_isRange_20 (by decide) ?_
      refine W.widen (k := (FF9).2.2.1) (n := (FF9).2.2.2) (Nat.le_of_eq (by rw [hM]; first | done | rfl)) (Nat.le_of_eq (by rw [hM]; first | done | rfl)) ?_
      exact W.zret (v := 0) hx hb hr rfl (lw_ret (X := []) (Y := []) b_2 hP hD hK hS (by rw [hM]; first | done | rfl) ⟨(by rw [hM]; exact hM9_2), hb9_2, hBL_2, (by rw [hM]; exact XI.mono hXI_2 (show Bd ≤ Bd + 0 from (by have y0 := f_eq c_1; have y1 := f_eq c_3; have z0 := hBd; have e_m1001 : (-1001 : Int32).toInt = -1001 := (by decide +kernel); have e_0 : (0 : Int32).toInt = 0 := (by decide +kernel); omega)))⟩) hS.2.2 dL_isRange_21
    · rw [if_neg c_3] at hM
      refine lv_iconst (v := 1) hx hb dL_isRange_16 (by decide) ?_
      refine lv_goto (tgt := 21) hx hb dL_isRange_17 (by decide) ?_
      refine W.widen (k := (FF9).2.2.1) (n := (FF9).2.2.2) (Nat.le_of_eq (by rw [hM]; first | done | rfl)) (Nat.le_of_eq (by rw [hM]; first | done | rfl)) ?_
      exact W.zret (v := 1) hx hb hr rfl (lw_ret (X := []) (Y := []) b_2 hP hD hK hS (by rw [hM]; first | done | rfl) ⟨(by rw [hM]; exact hM9_2), hb9_2, hBL_2, (by rw [hM]; exact XI.mono hXI_2 (show Bd ≤ Bd + 0 from (by have y0 := f_eq c_1; have y1 := f_neq c_3; have z0 := hBd; have e_m1001 : (-1001 : Int32).toInt = -1001 := (by decide +kernel); have e_0 : (0 : Int32).toInt = 0 := (by decide +kernel); omega)))⟩) hS.2.2 dL_isRange_21
