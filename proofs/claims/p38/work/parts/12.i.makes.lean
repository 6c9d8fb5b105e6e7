def F_L_some (a1 : Int32) (a2 : Int32) : Int32 := (if 0 ≤ (rmI a1 a2) then (rmI a1 a2) else ((rmI a1 a2) + a2))
theorem R_L_some (a1 a2 : Int32) (h : 0 < a2.toInt) : 0 ≤ (F_L_some a1 a2).toInt ∧ (F_L_some a1 a2).toInt < a2.toInt := some_r a1 a2 h
set_option maxHeartbeats 4000000 in
set_option maxRecDepth 100000 in
theorem c_L_some (l : Launch) (hl0 : l.stackTraces = false) (D : va_G) (ad : Nat → Nat) (sz : Nat) (a1 : Int32) (a2 : Int32) (hy0 : 0 < a2.toInt) : Met l yL_some wsL_some ({ frames := 0, cells := 0, slots := 0, locals := 0 }) (PR_ D ad [] [] sz [.int a1, .int a2]) (QR_ (.int (F_L_some a1 a2)) (va_A [] sz)) 0 0 (va_A [] sz) := by
  refine Met.ofW (cc := cL_some) (maxL := 3) (ret := (some .int)) (by decide) rfl ?_
  intro p e s m args below meth c s₁ B hml hv
  obtain ⟨rfl, hsz, hP, hK, hF⟩ := hv
  have hx := B.exec
  have hb := B.bytes
  have hr := B.returns
  have hts := atoms_spec (ws := wsL_some) B.pre
  have hown : s.vm.findClass RL = some m.cls := findClass_of_methodNamed B.named
  have hlocks := B.notSynchronized
  subst hsz
  generalize hAe : va_A [] s.heap.size = A at hF ⊢
  have hA : ∀ q : Nat, s.heap.size ≤ q → A q := fun q h => by rw [← hAe]; exact Or.inr h
  obtain ⟨H, hHe⟩ : ∃ H : Heap, H = s.heap := ⟨_, rfl⟩
  have hS : va_S A s.heap H [] := by rw [hHe]; exact va_S.rf
  have hP : va_P D vwCl [] H := by rw [hHe]; exact hP
  rw [← hHe]
  have hl := lv_entry [.int a1, .int a2] (n := 3) (Nat.le_of_ble_eq_true rfl)
  rw [lg_entry_eq]
  generalize (lg_sl [.int a1, .int a2] ++ List.replicate (3 - (lg_sl [.int a1, .int a2]).length) Slot.unset).toArray = ls at hl ⊢
  have hl : lv_has ls 3 [(0, .int a1), (1, .int a2)] := hl
  have hM : F_L_some a1 a2 = (if 0 ≤ (rmI a1 a2) then (rmI a1 a2) else ((rmI a1 a2) + a2)) := rfl
  refine lv_iload_n hx hb dL_some_0 rfl (lv_at hl 0 rfl) ?_
  refine lv_iload_n hx hb dL_some_1 rfl (lv_at hl 1 rfl) ?_
  refine lv_irem hx hb dL_some_2 (ne0_ (by have z0 := hy0; have b4 := Int32.toInt_lt (a2); have d4 := Int32.le_toInt (a2); omega)) ?_
  refine kt_ (v := (rmI a1 a2)) rfl ?_
  refine lv_istore_n (lv' := [(2, .int (rmI a1 a2)), (0, .int a1), (1, .int a2)]) hx hb dL_some_3 rfl hl (by decide) rfl (fun ls hl => ?_)
  refine lv_iload_n hx hb dL_some_4 rfl (lv_at hl 0 rfl) ?_
  refine lv_if_ge (tgt := 14) hx hb dL_some_5 (by decide) (fun c_1 => ?_) (fun c_1 => ?_)
  · rw [if_pos c_1] at hM
    refine lv_iload_n hx hb dL_some_14 rfl (lv_at hl 0 rfl) ?_
    refine W.widen (k := 0) (n := 0) (Nat.le_of_ble_eq_true rfl) (Nat.le_of_ble_eq_true rfl) ?_
    exact W.iret (v := (rmI a1 a2)) hx hb hr (QR_.mk hS (by rw [hM])) hS.2.2 dL_some_15
  · rw [if_neg c_1] at hM
    refine lv_iload_n hx hb dL_some_8 rfl (lv_at hl 0 rfl) ?_
    refine lv_iload_n hx hb dL_some_9 rfl (lv_at hl 2 rfl) ?_
    refine lv_iadd hx hb dL_some_10 ?_
    refine lv_goto (tgt := 15) hx hb dL_some_11 (by decide) ?_
    refine W.widen (k := 0) (n := 0) (Nat.le_of_ble_eq_true rfl) (Nat.le_of_ble_eq_true rfl) ?_
    exact W.iret (v := ((rmI a1 a2) + a2)) hx hb hr (QR_.mk hS (by rw [hM])) hS.2.2 dL_some_15
def K_L_makes_198  : (Int32 × MS × Nat × Nat) → (Int32 × MS × Nat × Nat)
  | (y198_0, y198_1, y198_2, y198_3) => (adc y198_2 y198_3 (if y198_0 < 0 then (0, y198_1, 0, 0) else (1, y198_1, 0, 0)))
def K_L_makes_198_1  : (Int32 × MS × Nat × Nat) → (Int32 × MS × Nat × Nat)
  | (y198_0, y198_1, y198_2, y198_3) => (adc y198_2 y198_3 (if y198_0 < 0 then (0, y198_1, 0, 0) else (1, y198_1, 0, 0)))
def K_L_makes_176 (len1 : Nat) (xs1 : Nat → Int32) : (Int32 × MS × Nat × Nat) → (Int32 × MS × Nat × Nat)
  | (y176_0, y176_1, y176_2, y176_3) => (adc y176_2 y176_3 (if y176_0 = 0 then (K_L_makes_198_1 (F_L_pass y176_1 ((1 : Int32) + (F_L_some (F_L_at xs1 len1 10) 25)))) else (0, y176_1, 0, 0)))
def K_L_makes_137 (x37_3 : Int32) (rc_37 : Int32 → MS → (Int32 × MS × Nat × Nat)) : (Int32 × MS × Nat × Nat) → (Int32 × MS × Nat × Nat)
  | (y137_0, y137_1, y137_2, y137_3) => (adc y137_2 y137_3 (if 0 ≤ y137_0 then (rc_37 (x37_3 + 1) y137_1) else (0, y137_1, 0, 0)))
def K_L_makes_137_1 (x37_3 : Int32) (rc_37 : Int32 → MS → (Int32 × MS × Nat × Nat)) : (Int32 × MS × Nat × Nat) → (Int32 × MS × Nat × Nat)
  | (y137_0, y137_1, y137_2, y137_3) => (adc y137_2 y137_3 (if 0 ≤ y137_0 then (rc_37 (x37_3 + 1) y137_1) else (0, y137_1, 0, 0)))
def K_L_makes_137_2 (x37_3 : Int32) (rc_37 : Int32 → MS → (Int32 × MS × Nat × Nat)) : (Int32 × MS × Nat × Nat) → (Int32 × MS × Nat × Nat)
  | (y137_0, y137_1, y137_2, y137_3) => (adc y137_2 y137_3 (if 0 ≤ y137_0 then (rc_37 (x37_3 + 1) y137_1) else (0, y137_1, 0, 0)))
def K_L_makes_116 (len1 : Nat) (xs1 : Nat → Int32) (x37_3 : Int32) (rc_37 : Int32 → MS → (Int32 × MS × Nat × Nat)) : (Int32 × MS × Nat × Nat) → (Int32 × MS × Nat × Nat)
  | (y116_0, y116_1, y116_2, y116_3) => (adc y116_2 y116_3 (if y116_0 = 5 then (if ((((F_L_at xs1 len1 ((1 : Int32) + x37_3)) ^^^ (x37_3 * 7919)) >>> (10 &&& 31)) &&& 3) = 0 then (K_L_makes_137_2 x37_3 rc_37 (F_L_pass y116_1 1)) else (rc_37 (x37_3 + 1) y116_1)) else (0, y116_1, 0, 0)))
def K_L_makes_106 (len1 : Nat) (xs1 : Nat → Int32) (x37_3 : Int32) (rc_37 : Int32 → MS → (Int32 × MS × Nat × Nat)) : (Int32 × MS × Nat × Nat) → (Int32 × MS × Nat × Nat)
  | (y106_0, y106_1, y106_2, y106_3) => (adc y106_2 y106_3 (if y106_0 = 4 then (if ((((F_L_at xs1 len1 ((1 : Int32) + x37_3)) ^^^ (x37_3 * 7919)) >>> (10 &&& 31)) &&& 3) = 0 then (K_L_makes_137_1 x37_3 rc_37 (F_L_pass y106_1 1)) else (rc_37 (x37_3 + 1) y106_1)) else (K_L_makes_116 len1 xs1 x37_3 rc_37 (F_L_reason y106_1 0 0))))
def K_L_makes_93 (len1 : Nat) (xs1 : Nat → Int32) (x37_3 : Int32) (rc_37 : Int32 → MS → (Int32 × MS × Nat × Nat)) : (Int32 × MS × Nat × Nat) → (Int32 × MS × Nat × Nat)
  | (y93_0, y93_1, y93_2, y93_3) => (adc y93_2 y93_3 (if 0 ≤ y93_0 then (if ((((F_L_at xs1 len1 ((1 : Int32) + x37_3)) ^^^ (x37_3 * 7919)) >>> (10 &&& 31)) &&& 3) = 0 then (K_L_makes_137 x37_3 rc_37 (F_L_pass y93_1 1)) else (rc_37 (x37_3 + 1) y93_1)) else (K_L_makes_106 len1 xs1 x37_3 rc_37 (F_L_reason y93_1 0 0))))
def B_L_makes_37 (len1 : Nat) (xs1 : Nat → Int32) (rc_37 : Int32 → MS → (Int32 × MS × Nat × Nat)) (x37_3 : Int32) (x37_t : MS) : Int32 × MS × Nat × Nat := (if 8 ≤ x37_3 then (if ((F_L_at xs1 len1 9) &&& 1) = 0 then (K_L_makes_176 len1 xs1 (F_L_district x37_t (F_L_some ((F_L_at xs1 len1 9) >>> (1 &&& 31)) ((3 : Int32) + (F_L_some (F_L_at xs1 len1 0) 4))) 1)) else (K_L_makes_198 (F_L_pass x37_t ((1 : Int32) + (F_L_some (F_L_at xs1 len1 10) 25))))) else (K_L_makes_93 len1 xs1 x37_3 rc_37 (F_L_canal x37_t (F_L_some ((F_L_at xs1 len1 ((1 : Int32) + x37_3)) ^^^ (x37_3 * 7919)) ((3 : Int32) + (F_L_some (F_L_at xs1 len1 0) 4))) (F_L_some (((F_L_at xs1 len1 ((1 : Int32) + x37_3)) ^^^ (x37_3 * 7919)) >>> (3 &&& 31)) ((3 : Int32) + (F_L_some (F_L_at xs1 len1 0) 4))) ((1 : Int32) + (F_L_some (((F_L_at xs1 len1 ((1 : Int32) + x37_3)) ^^^ (x37_3 * 7919)) >>> (6 &&& 31)) 9)))))
def L_L_makes_37 (len1 : Nat) (xs1 : Nat → Int32) : Nat → Int32 → MS → (Int32 × MS × Nat × Nat)
  | 0 => fun _ x37_t => (0, x37_t, 0, 0)
  | k + 1 => B_L_makes_37 len1 xs1 (L_L_makes_37 len1 xs1 k)
def K_L_makes_20 (x14_3 : Int32) (rc_14 : Int32 → MS → (Int32 × MS × Nat × Nat)) : (Int32 × MS × Nat × Nat) → (Int32 × MS × Nat × Nat)
  | (y20_0, y20_1, y20_2, y20_3) => (adc y20_2 y20_3 (if y20_0 = x14_3 then (rc_14 (x14_3 + 1) y20_1) else (0, y20_1, 0, 0)))
def B_L_makes_14 (len1 : Nat) (xs1 : Nat → Int32) (rc_14 : Int32 → MS → (Int32 × MS × Nat × Nat)) (x14_3 : Int32) (x14_t : MS) : Int32 × MS × Nat × Nat := (if ((3 : Int32) + (F_L_some (F_L_at xs1 len1 0) 4)) ≤ x14_3 then (L_L_makes_37 len1 xs1 (((8 : Int32).toInt - (0 : Int32).toInt).toNat + 1) 0 x14_t) else (K_L_makes_20 x14_3 rc_14 (F_L_come x14_t)))
def L_L_makes_14 (len1 : Nat) (xs1 : Nat → Int32) : Nat → Int32 → MS → (Int32 × MS × Nat × Nat)
  | 0 => fun _ x14_t => (0, x14_t, 0, 0)
  | k + 1 => B_L_makes_14 len1 xs1 (L_L_makes_14 len1 xs1 k)
def F_L_makes (M : MS) (len1 : Nat) (xs1 : Nat → Int32) : Int32 × MS × Nat × Nat := (L_L_makes_14 len1 xs1 (((((3 : Int32) + (F_L_some (F_L_at xs1 len1 0) 4)) : Int32).toInt - (0 : Int32).toInt).toNat + 1) 0 M)
set_option maxHeartbeats 4000000 in
set_option maxRecDepth 100000 in
theorem bl_L_makes (l : Launch) (hl0 : l.stackTraces = false) (D : va_G) (ad : Nat → Nat) (sz : Nat) (b : BX) (hBL : BL_ b) (a0 : Nat) (hb9 : b.1 79 = a0) (M : MS) (hM9 : b.2.2.2 = M) (Bd : Nat) (hXI : XI Bd M) (hBd : Bd + 16000 ≤ 900000) (sb len1 : Nat) (xs1 : Nat → Int32) (hy0 : len1 ≤ 260) : Met l yL_makes wsL_makes ({ frames := 14, cells := (F_L_makes M len1 xs1).2.2.1, slots := (F_L_makes M len1 xs1).2.2.2, locals := 382 }) (PCX_ D ad (BWW ad b) (BWT b) sb len1 xs1 sz [.ref a0, .ref sb]) (QB_ D (fun _ : BX => some (.int (F_L_makes M len1 xs1).1)) (fun b' => b'.2.2.2 = (F_L_makes M len1 xs1).2.1 ∧ b'.1 79 = a0 ∧ BL_ b' ∧ XI (Bd + 16000) (F_L_makes M len1 xs1).2.1) (BWW ad) BWT (va_A (BWW ad b) sz)) (F_L_makes M len1 xs1).2.2.1 (F_L_makes M len1 xs1).2.2.2 (va_A (BWW ad b) sz) := by
  refine Met.ofW (cc := cL_makes) (maxL := 8) (ret := (some .boolean)) (by decide) rfl ?_
  intro p e s m args below meth c s₁ B hml hv
  obtain ⟨⟨rfl, hsz, hP, hK, hD0, hF⟩, hX, hbl, hbA⟩ := hv
  have hx := B.exec
  have hb := B.bytes
  have hr := B.returns
  have hts := atoms_spec (ws := wsL_makes) B.pre
  have hown : s.vm.findClass RL = some m.cls := findClass_of_methodNamed B.named
  have hlocks := B.notSynchronized
  subst hsz
  have hD := hD0.self (sz := s.heap.size)
  generalize hAe : va_A (BWW ad b) s.heap.size = A at hD hF hbA ⊢
  have hA : ∀ q : Nat, s.heap.size ≤ q → A q := fun q h => by rw [← hAe]; exact Or.inr h
  obtain ⟨H, hHe⟩ : ∃ H : Heap, H = s.heap := ⟨_, rfl⟩
  have hS : va_S A s.heap H [] := by rw [hHe]; exact va_S.rf
  have hP : va_P D vwCl ([] ++ BWW ad b) H := by rw [hHe]; exact hP
  have hD : va_D A ([] ++ BWW ad b) := hD
  have hK : va_K D vwCl ([] ++ BWT b) s := hK
  rw [← hHe]
  have hl := lv_entry [.ref a0, .ref sb] (n := 8) (Nat.le_of_ble_eq_true rfl)
  rw [lg_entry_eq]
  generalize (lg_sl [.ref a0, .ref sb] ++ List.replicate (8 - (lg_sl [.ref a0, .ref sb]).length) Slot.unset).toArray = ls at hl ⊢
  have hl : lv_has ls 8 [(0, .ref a0), (1, .ref sb)] := hl
  generalize hF9 : F_L_makes M len1 xs1 = FF9
  have hM : FF9 = (adc 0 0 (L_L_makes_14 len1 xs1 (((((3 : Int32) + (F_L_some (F_L_at xs1 len1 0) 4)) : Int32).toInt - (0 : Int32).toInt).toNat + 1) 0 M)) := hF9.symm.trans (adc_0 _).symm
  have e1_ : (1 : Int32).toInt = 1 := by decide +kernel
  have e3_ : (3 : Int32).toInt = 3 := by decide +kernel
  have e4_ : (4 : Int32).toInt = 4 := by decide +kernel
  have rs_ := R_L_some (F_L_at xs1 len1 0) 4 (by omega)
  have en_ := addI (a := 3) (b := F_L_some (F_L_at xs1 len1 0) 4) (by omega) (by omega)
  refine lv_iconst (v := 3) hx hb dL_makes_0 (by decide) ?_
  refine lv_aload_n hx hb dL_makes_1 rfl (lv_at hl 1 rfl) ?_
  refine lv_iconst (v := 0) hx hb dL_makes_2 (by decide) ?_
  obtain ⟨y9, hy9⟩ : ∃ y9, (F_L_at xs1 len1 0) = y9 := ⟨_, rfl⟩
  have hcon := (c_L_at l hl0 ad H.size sb len1 xs1 0 hy0 (by decide +kernel))
  rw [hy9] at hcon
  refine kr_ (va_runS (As := [.ref sb, .int 0]) (rest := [.int 3]) ⟨hx, hb, hml, hown, hts⟩ hcon (va_cwS 2 hts gL_makes_L_at rfl rfl rfl (by decide +kernel) ⟨Nat.le_of_ble_eq_true rfl, Nat.le_of_ble_eq_true rfl⟩) ⟨PRX_.blind, PRX_.pre hF hX hbl hbA hS hA⟩ rfl rfl hl.1 rfl (lv_room (Nat.le_of_ble_eq_true rfl)) dL_makes_3 ⟨(adc_r0 hM), (adc_s0 hM)⟩) hP hS hA (fun H locs hP hS => ?_)
  subst hy9
  refine W.eq (g2 := F0 m 6 ls [.int (F_L_at xs1 len1 0), .int 3]) rfl ?_
  refine lv_iconst (v := 4) hx hb dL_makes_6 (by decide) ?_
  obtain ⟨y9, hy9⟩ : ∃ y9, (F_L_some (F_L_at xs1 len1 0) 4) = y9 := ⟨_, rfl⟩
  have hcon := (c_L_some l hl0 D ad H.size (F_L_at xs1 len1 0) 4 (by decide +kernel))
  rw [hy9] at hcon
  refine kr_ (va_runS (As := [.int (F_L_at xs1 len1 0), .int 4]) (rest := [.int 3]) ⟨hx, hb, hml, hown, hts⟩ hcon (va_cwS 2 hts gL_makes_L_some rfl rfl rfl (by decide +kernel) ⟨Nat.le_of_ble_eq_true rfl, Nat.le_of_ble_eq_true rfl⟩) ⟨PR_.blind, PR_.pre hF hK (hP.sub [] rfl) hS hA [] rfl⟩ rfl rfl hl.1 rfl (lv_room (Nat.le_of_ble_eq_true rfl)) dL_makes_7 ⟨(adc_r0 hM), (adc_s0 hM)⟩) hP hS hA (fun H locs hP hS => ?_)
  subst hy9
  refine W.eq (g2 := F0 m 10 ls [.int (F_L_some (F_L_at xs1 len1 0) 4), .int 3]) rfl ?_
  refine lv_iadd hx hb dL_makes_10 ?_
  refine lv_istore_n (lv' := [(2, .int ((3 : Int32) + (F_L_some (F_L_at xs1 len1 0) 4))), (0, .ref a0), (1, .ref sb)]) hx hb dL_makes_11 rfl hl (by decide) rfl (fun ls hl => ?_)
  refine lv_iconst (v := 0) hx hb dL_makes_12 (by decide) ?_
  refine lv_istore_n (lv' := [(3, .int 0), (2, .int ((3 : Int32) + (F_L_some (F_L_at xs1 len1 0) 4))), (0, .ref a0), (1, .ref sb)]) hx hb dL_makes_13 rfl hl (by decide) rfl (fun ls hl => ?_)
  refine lpW (τ := Int32 × MS) (fun k t H locs ls c9 s9 => ∃ (b14 : BX), ((((3 : Int32) + (F_L_some (F_L_at xs1 len1 0) 4)) : Int32).toInt - (t.1 : Int32).toInt).toNat < k ∧ 0 ≤ (t.1 : Int32).toInt ∧ b14.2.2.2 = t.2 ∧ b14.1 79 = a0 ∧ BL_ b14 ∧ XI (Bd + 600 * (t.1 : Int32).toInt.toNat) (t.2) ∧ (t.1 : Int32).toInt ≤ 6 ∧ va_K D vwCl ([] ++ BWT b14) s ∧ va_P D vwCl ([] ++ BWW ad b14) H ∧ va_D A ([] ++ BWW ad b14) ∧ va_S A s.heap H locs ∧ lv_has ls 8 [(3, .int t.1), (2, .int ((3 : Int32) + (F_L_some (F_L_at xs1 len1 0) 4))), (0, .ref a0), (1, .ref sb)] ∧ FF9 = adc c9 s9 (L_L_makes_14 len1 xs1 k t.1 t.2)) (fun t H locs ls c9 s9 h9 => (by obtain ⟨_, h8, _⟩ := h9; exact absurd h8 (Nat.not_lt_zero _))) (fun k_2 ih t H locs ls c_2 s_2 hI => ?_) (((((3 : Int32) + (F_L_some (F_L_at xs1 len1 0) 4)) : Int32).toInt - (0 : Int32).toInt).toNat + 1) (0, M) ⟨b, Nat.lt_succ_self _, (show 0 ≤ (0 : Int32).toInt from (by decide +kernel)), hM9, hb9, hBL, XI.mono hXI (show Bd ≤ (Bd + 600 * (0 : Int32).toInt.toNat) from (by have z0 := hy0; have z1 := hBd; have z2 := e1_; have z3 := e3_; have z4 := e4_; have z5 := rs_; have z6 := en_; omega)), (show (0 : Int32).toInt ≤ 6 from (by have z0 := hy0; have z1 := hBd; have z2 := e1_; have z3 := e3_; have z4 := e4_; have z5 := rs_; have z6 := en_; have l121 : (0 : Int32).toInt = 0 := (by decide +kernel); omega)), hK, hP, hD, hS, (by exact hl), hM⟩
  obtain ⟨x14_3, x14_t⟩ := t
  obtain ⟨b14, hk_2, hz_2, hM9_14, hb9_14, hBL_14, hXI_14, hv_2_0, hK, hP, hD, hS, hl, hM⟩ := hI
  have hK : va_K D vwCl ([] ++ BWT b14) s := hK
  have hM9_14 : b14.2.2.2 = x14_t := hM9_14
  have hXI_14 : XI (Bd + 600 * (x14_3 : Int32).toInt.toNat) x14_t := hXI_14
  have hP : va_P D vwCl ([] ++ BWW ad b14) H := hP
  have hD : va_D A ([] ++ BWW ad b14) := hD
  have hl : lv_has ls 8 [(3, .int x14_3), (2, .int ((3 : Int32) + (F_L_some (F_L_at xs1 len1 0) 4))), (0, .ref a0), (1, .ref sb)] := hl
  have hz_2 : 0 ≤ (x14_3 : Int32).toInt := hz_2
  have hv_2_0 : (x14_3 : Int32).toInt ≤ 6 := hv_2_0
  have hk_2 : ((((3 : Int32) + (F_L_some (F_L_at xs1 len1 0) 4)) : Int32).toInt - (x14_3 : Int32).toInt).toNat < k_2 + 1 := hk_2
  have hM : FF9 = (adc c_2 s_2 (if ((3 : Int32) + (F_L_some (F_L_at xs1 len1 0) 4)) ≤ x14_3 then (L_L_makes_37 len1 xs1 (((8 : Int32).toInt - (0 : Int32).toInt).toNat + 1) 0 x14_t) else (K_L_makes_20 x14_3 (L_L_makes_14 len1 xs1 k_2) (F_L_come x14_t)))) := hM
  have ih_2 := ih
  refine lv_iload_n hx hb dL_makes_14 rfl (lv_at hl 0 rfl) ?_
  refine lv_iload_n hx hb dL_makes_15 rfl (lv_at hl 1 rfl) ?_
  refine lv_icmp_ge (tgt := 35) hx hb dL_makes_16 (by decide) (fun c_3 => ?_) (fun c_3 => ?_)
  · rw [if_pos c_3] at hM
    refine lv_iconst (v := 0) hx hb dL_makes_35 (by decide) ?_
    refine lv_istore_n (lv' := [(3, .int 0), (2, .int ((3 : Int32) + (F_L_some (F_L_at xs1 len1 0) 4))), (0, .ref a0), (1, .ref sb)]) hx hb dL_makes_36 rfl hl (by decide) rfl (fun ls hl => ?_)
    refine lpW (τ := Int32 × MS) (fun k t H locs ls c9 s9 => ∃ (b37 : BX), ((8 : Int32).toInt - (t.1 : Int32).toInt).toNat < k ∧ 0 ≤ (t.1 : Int32).toInt ∧ b37.2.2.2 = t.2 ∧ b37.1 79 = a0 ∧ BL_ b37 ∧ XI (Bd + 3600 + 1200 * (t.1 : Int32).toInt.toNat) (t.2) ∧ (t.1 : Int32).toInt ≤ 8 ∧ va_K D vwCl ([] ++ BWT b37) s ∧ va_P D vwCl ([] ++ BWW ad b37) H ∧ va_D A ([] ++ BWW ad b37) ∧ va_S A s.heap H locs ∧ lv_has ls 8 [(3, .int t.1), (2, .int ((3 : Int32) + (F_L_some (F_L_at xs1 len1 0) 4))), (0, .ref a0), (1, .ref sb)] ∧ FF9 = adc c9 s9 (L_L_makes_37 len1 xs1 k t.1 t.2)) (fun t H locs ls c9 s9 h9 => (by obtain ⟨_, h8, _⟩ := h9; exact absurd h8 (Nat.not_lt_zero _))) (fun k_4 ih t H locs ls c_4 s_4 hI => ?_) (((8 : Int32).toInt - (0 : Int32).toInt).toNat + 1) (0, x14_t) ⟨b14, Nat.lt_succ_self _, (show 0 ≤ (0 : Int32).toInt from (by decide +kernel)), hM9_14, hb9_14, hBL_14, XI.mono hXI_14 (show (Bd + 600 * (x14_3 : Int32).toInt.toNat) ≤ (Bd + 3600 + 1200 * (0 : Int32).toInt.toNat) from (by have y0 := f_le c_3; have z0 := hy0; have z1 := hBd; have z2 := e1_; have z3 := e3_; have z4 := e4_; have z5 := rs_; have z6 := en_; have z7 := hz_2; have z8 := hv_2_0; have l164 : (4 : Int32).toInt = 4 := (by decide +kernel); have rsm := R_L_some (F_L_at xs1 len1 0) 4 (by omega); omega)), (show (0 : Int32).toInt ≤ 8 from (by have y0 := f_le c_3; have z0 := hy0; have z1 := hBd; have z2 := e1_; have z3 := e3_; have z4 := e4_; have z5 := rs_; have z6 := en_; have z7 := hz_2; have z8 := hv_2_0; have l162 : (4 : Int32).toInt = 4 := (by decide +kernel); have rsm := R_L_some (F_L_at xs1 len1 0) 4 (by omega); have l163 : (0 : Int32).toInt = 0 := (by decide +kernel); omega)), hK, hP, hD, hS, (by exact hl), hM⟩
    obtain ⟨x37_3, x37_t⟩ := t
    obtain ⟨b37, hk_4, hz_4, hM9_37, hb9_37, hBL_37, hXI_37, hv_4_0, hK, hP, hD, hS, hl, hM⟩ := hI
    have hK : va_K D vwCl ([] ++ BWT b37) s := hK
    have hM9_37 : b37.2.2.2 = x37_t := hM9_37
    have hXI_37 : XI (Bd + 3600 + 1200 * (x37_3 : Int32).toInt.toNat) x37_t := hXI_37
    have hP : va_P D vwCl ([] ++ BWW ad b37) H := hP
    have hD : va_D A ([] ++ BWW ad b37) := hD
    have hl : lv_has ls 8 [(3, .int x37_3), (2, .int ((3 : Int32) + (F_L_some (F_L_at xs1 len1 0) 4))), (0, .ref a0), (1, .ref sb)] := hl
    have hz_4 : 0 ≤ (x37_3 : Int32).toInt := hz_4
    have hv_4_0 : (x37_3 : Int32).toInt ≤ 8 := hv_4_0
    have hk_4 : ((8 : Int32).toInt - (x37_3 : Int32).toInt).toNat < k_4 + 1 := hk_4
    have hM : FF9 = (adc c_4 s_4 (if 8 ≤ x37_3 then (if ((F_L_at xs1 len1 9) &&& 1) = 0 then (K_L_makes_176 len1 xs1 (F_L_district x37_t (F_L_some ((F_L_at xs1 len1 9) >>> (1 &&& 31)) ((3 : Int32) + (F_L_some (F_L_at xs1 len1 0) 4))) 1)) else (K_L_makes_198 (F_L_pass x37_t ((1 : Int32) + (F_L_some (F_L_at xs1 len1 10) 25))))) else (K_L_makes_93 len1 xs1 x37_3 (L_L_makes_37 len1 xs1 k_4) (F_L_canal x37_t (F_L_some ((F_L_at xs1 len1 ((1 : Int32) + x37_3)) ^^^ (x37_3 * 7919)) ((3 : Int32) + (F_L_some (F_L_at xs1 len1 0) 4))) (F_L_some (((F_L_at xs1 len1 ((1 : Int32) + x37_3)) ^^^ (x37_3 * 7919)) >>> (3 &&& 31)) ((3 : Int32) + (F_L_some (F_L_at xs1 len1 0) 4))) ((1 : Int32) + (F_L_some (((F_L_at xs1 len1 ((1 : Int32) + x37_3)) ^^^ (x37_3 * 7919)) >>> (6 &&& 31)) 9)))))) := hM
    have ih_4 := ih
    refine lv_iload_n hx hb dL_makes_37 rfl (lv_at hl 0 rfl) ?_
    refine lv_bipush (v := 8) hx hb dL_makes_38 (by decide) ?_
    refine lv_icmp_ge (tgt := 151) hx hb dL_makes_40 (by decide) (fun c_5 => ?_) (fun c_5 => ?_)
    · rw [if_pos c_5] at hM
      refine lv_aload_n hx hb dL_makes_151 rfl (lv_at hl 3 rfl) ?_
      refine lv_bipush (v := 9) hx hb dL_makes_152 (by decide) ?_
      obtain ⟨y9, hy9⟩ : ∃ y9, (F_L_at xs1 len1 9) = y9 := ⟨_, rfl⟩
      have hcon := (c_L_at l hl0 ad H.size sb len1 xs1 9 hy0 (by decide +kernel))
      rw [hy9] at hcon
      refine kr_ (va_runS (As := [.ref sb, .int 9]) (rest := []) ⟨hx, hb, hml, hown, hts⟩ hcon (va_cwS 2 hts gL_makes_L_at rfl rfl rfl (by decide +kernel) ⟨Nat.le_of_ble_eq_true rfl, Nat.le_of_ble_eq_true rfl⟩) ⟨PRX_.blind, PRX_.pre hF hX hbl hbA hS hA⟩ rfl rfl hl.1 rfl (lv_room (Nat.le_of_ble_eq_true rfl)) dL_makes_154 ⟨(adc_r0 hM), (adc_s0 hM)⟩) hP hS hA (fun H locs hP hS => ?_)
      subst hy9
      refine W.eq (g2 := F0 m 157 ls [.int (F_L_at xs1 len1 9)]) rfl ?_
      refine lv_iconst (v := 1) hx hb dL_makes_157 (by decide) ?_
      refine lv_iand hx hb dL_makes_158 ?_
      refine lv_if_ne (tgt := 184) hx hb dL_makes_159 (by decide) (fun c_6 => ?_) (fun c_6 => ?_)
      · rw [if_neg c_6] at hM
        refine lv_aload_n hx hb dL_makes_184 rfl (lv_at hl 2 rfl) ?_
        refine lv_iconst (v := 1) hx hb dL_makes_185 (by decide) ?_
        refine lv_aload_n hx hb dL_makes_186 rfl (lv_at hl 3 rfl) ?_
        refine lv_bipush (v := 10) hx hb dL_makes_187 (by decide) ?_
        obtain ⟨y9, hy9⟩ : ∃ y9, (F_L_at xs1 len1 10) = y9 := ⟨_, rfl⟩
        have hcon := (c_L_at l hl0 ad H.size sb len1 xs1 10 hy0 (by decide +kernel))
        rw [hy9] at hcon
        refine kr_ (va_runS (As := [.ref sb, .int 10]) (rest := [.int 1, .ref a0]) ⟨hx, hb, hml, hown, hts⟩ hcon (va_cwS 2 hts gL_makes_L_at rfl rfl rfl (by decide +kernel) ⟨Nat.le_of_ble_eq_true rfl, Nat.le_of_ble_eq_true rfl⟩) ⟨PRX_.blind, PRX_.pre hF hX hbl hbA hS hA⟩ rfl rfl hl.1 rfl (lv_room (Nat.le_of_ble_eq_true rfl)) dL_makes_189 ⟨(adc_r0 hM), (adc_s0 hM)⟩) hP hS hA (fun H locs hP hS => ?_)
        subst hy9
        refine W.eq (g2 := F0 m 192 ls [.int (F_L_at xs1 len1 10), .int 1, .ref a0]) rfl ?_
        refine lv_bipush (v := 25) hx hb dL_makes_192 (by decide) ?_
        obtain ⟨y9, hy9⟩ : ∃ y9, (F_L_some (F_L_at xs1 len1 10) 25) = y9 := ⟨_, rfl⟩
        have hcon := (c_L_some l hl0 D ad H.size (F_L_at xs1 len1 10) 25 (by decide +kernel))
        rw [hy9] at hcon
        refine kr_ (va_runS (As := [.int (F_L_at xs1 len1 10), .int 25]) (rest := [.int 1, .ref a0]) ⟨hx, hb, hml, hown, hts⟩ hcon (va_cwS 2 hts gL_makes_L_some rfl rfl rfl (by decide +kernel) ⟨Nat.le_of_ble_eq_true rfl, Nat.le_of_ble_eq_true rfl⟩) ⟨PR_.blind, PR_.pre hF hK (hP.sub [] rfl) hS hA [] rfl⟩ rfl rfl hl.1 rfl (lv_room (Nat.le_of_ble_eq_true rfl)) dL_makes_194 ⟨(adc_r0 hM), (adc_s0 hM)⟩) hP hS hA (fun H locs hP hS => ?_)
        subst hy9
        refine W.eq (g2 := F0 m 197 ls [.int (F_L_some (F_L_at xs1 len1 10) 25), .int 1, .ref a0]) rfl ?_
        refine lv_iadd hx hb dL_makes_197 ?_
        have hcon := (bl_L_pass l hl0 D ad H.size b37 hBL_37 a0 hb9_37 x37_t hM9_37 (Bd + 3600 + 1200 * (x37_3 : Int32).toInt.toNat) hXI_37 (show ((Bd + 3600 + 1200 * (x37_3 : Int32).toInt.toNat) + 600) ≤ 900000 from (by have y0 := f_le c_3; have y1 := f_le c_5; have y2 := f_neq c_6; have z0 := hy0; have z1 := hBd; have z2 := e1_; have z3 := e3_; have z4 := e4_; have z5 := rs_; have z6 := en_; have z7 := hz_2; have z8 := hv_2_0; have z9 := hz_4; have z10 := hv_4_0; have e_0 : (0 : Int32).toInt = 0 := (by decide +kernel); have e_8 : (8 : Int32).toInt = 8 := (by decide +kernel); have l165 : (4 : Int32).toInt = 4 := (by decide +kernel); have rsm := R_L_some (F_L_at xs1 len1 0) 4 (by omega); omega)) ((1 : Int32) + (F_L_some (F_L_at xs1 len1 10) 25)))
        generalize hy_8 : (F_L_pass x37_t ((1 : Int32) + (F_L_some (F_L_at xs1 len1 10) 25))) = y9 at hcon hM
        obtain ⟨y198_0, y198_1, y198_2, y198_3⟩ := y9
        have hM : FF9 = (adc c_4 s_4 (adc y198_2 y198_3 (if y198_0 < 0 then (0, y198_1, 0, 0) else (1, y198_1, 0, 0)))) := hM
        refine kwb_ [] [] (vx_runSW (As := [.ref a0, .int ((1 : Int32) + (F_L_some (F_L_at xs1 len1 10) 25))]) (rest := []) ⟨hx, hb, hml, hown, hts⟩ hcon (vx_cwSW 2 hts gL_makes_L_pass rfl rfl rfl (by decide +kernel) ⟨Nat.le_of_ble_eq_true rfl, Nat.le_of_ble_eq_true rfl⟩) ⟨PC_.blind, lw_pre (X := []) (Y := []) hF hK hP hD hS hA⟩ rfl rfl hl.1 rfl (lv_room (Nat.le_of_ble_eq_true rfl)) dL_makes_198 ⟨(adc_r1 hM), (adc_s1 hM)⟩) hK hP hD hS hA (fun b_8 H locs hpo hP hD hK hS => ?_)
        have hM : FF9 = (adc (c_4 + y198_2) (s_4 + y198_3) (if y198_0 < 0 then (0, y198_1, 0, 0) else (1, y198_1, 0, 0))) := hM.trans (adc_adc _ _ _ _ _)
        obtain ⟨hM9_8, hb9_8, hBL_8, hXI_8⟩ := hpo
        have hM9_8 : b_8.2.2.2 = y198_1 := hM9_8
        have hXI_8 : XI ((Bd + 3600 + 1200 * (x37_3 : Int32).toInt.toNat) + 600) y198_1 := hXI_8
        have hP : va_P D vwCl ([] ++ BWW ad b_8) H := hP
        have hD : va_D A ([] ++ BWW ad b_8) := hD
        have hK : va_K D vwCl ([] ++ BWT b_8) s := hK
        refine W.eq (g2 := F0 m 201 ls [.int y198_0]) rfl ?_
        refine lv_if_lt (tgt := 208) hx hb dL_makes_201 (by decide) (fun c_9 => ?_) (fun c_9 => ?_)
        · rw [if_pos c_9] at hM
          refine lv_iconst (v := 0) hx hb dL_makes_208 (by decide) ?_
          refine W.widen (k := (FF9).2.2.1) (n := (FF9).2.2.2) (Nat.le_of_eq (by rw [hM]; first | done | rfl)) (Nat.le_of_eq (by rw [hM]; first | done | rfl)) ?_
          exact W.zret (v := 0) hx hb hr rfl (lw_ret (X := []) (Y := []) b_8 hP hD hK hS (by rw [hM]; first | done | rfl) ⟨(by rw [hM]; exact hM9_8), hb9_8, hBL_8, (by rw [hM]; exact XI.mono hXI_8 (show ((Bd + 3600 + 1200 * (x37_3 : Int32).toInt.toNat) + 600) ≤ Bd + 16000 from (by have y0 := f_le c_3; have y1 := f_le c_5; have y2 := f_neq c_6; have y3 := f_lt c_9; have z0 := hy0; have z1 := hBd; have z2 := e1_; have z3 := e3_; have z4 := e4_; have z5 := rs_; have z6 := en_; have z7 := hz_2; have z8 := hv_2_0; have z9 := hz_4; have z10 := hv_4_0; have e_0 : (0 : Int32).toInt = 0 := (by decide +kernel); have e_8 : (8 : Int32).toInt = 8 := (by decide +kernel); have l166 : (4 : Int32).toInt = 4 := (by decide +kernel); have rsm := R_L_some (F_L_at xs1 len1 0) 4 (by omega); omega)))⟩) hS.2.2 dL_makes_209
        · rw [if_neg c_9] at hM
          refine lv_iconst (v := 1) hx hb dL_makes_204 (by decide) ?_
          refine lv_goto (tgt := 209) hx hb dL_makes_205 (by decide) ?_
          refine W.widen (k := (FF9).2.2.1) (n := (FF9).2.2.2) (Nat.le_of_eq (by rw [hM]; first | done | rfl)) (Nat.le_of_eq (by rw [hM]; first | done | rfl)) ?_
          exact W.zret (v := 1) hx hb hr rfl (lw_ret (X := []) (Y := []) b_8 hP hD hK hS (by rw [hM]; first | done | rfl) ⟨(by rw [hM]; exact hM9_8), hb9_8, hBL_8, (by rw [hM]; exact XI.mono hXI_8 (show ((Bd + 3600 + 1200 * (x37_3 : Int32).toInt.toNat) + 600) ≤ Bd + 16000 from (by have y0 := f_le c_3; have y1 := f_le c_5; have y2 := f_neq c_6; have y3 := f_nlt c_9; have z0 := hy0; have z1 := hBd; have z2 := e1_; have z3 := e3_; have z4 := e4_; have z5 := rs_; have z6 := en_; have z7 := hz_2; have z8 := hv_2_0; have z9 := hz_4; have z10 := hv_4_0; have e_0 : (0 : Int32).toInt = 0 := (by decide +kernel); have e_8 : (8 : Int32).toInt = 8 := (by decide +kernel); have l167 : (4 : Int32).toInt = 4 := (by decide +kernel); have rsm := R_L_some (F_L_at xs1 len1 0) 4 (by omega); omega)))⟩) hS.2.2 dL_makes_209
      · rw [if_pos c_6] at hM
        refine lv_aload_n hx hb dL_makes_162 rfl (lv_at hl 2 rfl) ?_
        refine lv_aload_n hx hb dL_makes_163 rfl (lv_at hl 3 rfl) ?_
        refine lv_bipush (v := 9) hx hb dL_makes_164 (by decide) ?_
        obtain ⟨y9, hy9⟩ : ∃ y9, (F_L_at xs1 len1 9) = y9 := ⟨_, rfl⟩
        have hcon := (c_L_at l hl0 ad H.size sb len1 xs1 9 hy0 (by decide +kernel))
        rw [hy9] at hcon
        refine kr_ (va_runS (As := [.ref sb, .int 9]) (rest := [.ref a0]) ⟨hx, hb, hml, hown, hts⟩ hcon (va_cwS 2 hts gL_makes_L_at rfl rfl rfl (by decide +kernel) ⟨Nat.le_of_ble_eq_true rfl, Nat.le_of_ble_eq_true rfl⟩) ⟨PRX_.blind, PRX_.pre hF hX hbl hbA hS hA⟩ rfl rfl hl.1 rfl (lv_room (Nat.le_of_ble_eq_true rfl)) dL_makes_166 ⟨(adc_r0 hM), (adc_s0 hM)⟩) hP hS hA (fun H locs hP hS => ?_)
        subst hy9
        refine W.eq (g2 := F0 m 169 ls [.int (F_L_at xs1 len1 9), .ref a0]) rfl ?_
        refine lv_iconst (v := 1) hx hb dL_makes_169 (by decide) ?_
        refine lv_ishr hx hb dL_makes_170 ?_
        refine lv_iload_n hx hb dL_makes_171 rfl (lv_at hl 1 rfl) ?_
        obtain ⟨y9, hy9⟩ : ∃ y9, (F_L_some ((F_L_at xs1 len1 9) >>> (1 &&& 31)) ((3 : Int32) + (F_L_some (F_L_at xs1 len1 0) 4))) = y9 := ⟨_, rfl⟩
        have hcon := (c_L_some l hl0 D ad H.size ((F_L_at xs1 len1 9) >>> (1 &&& 31)) ((3 : Int32) + (F_L_some (F_L_at xs1 len1 0) 4)) (by have y0 := f_le c_3; have y1 := f_le c_5; have y2 := f_eq c_6; have z0 := hy0; have z1 := hBd; have z2 := e1_; have z3 := e3_; have z4 := e4_; have z5 := rs_; have z6 := en_; have z7 := hz_2; have z8 := hv_2_0; have z9 := hz_4; have z10 := hv_4_0; have e_0 : (0 : Int32).toInt = 0 := (by decide +kernel); have e_8 : (8 : Int32).toInt = 8 := (by decide +kernel); have l172 : (4 : Int32).toInt = 4 := (by decide +kernel); have rsm := R_L_some (F_L_at xs1 len1 0) 4 (by omega); have l174 : (3 : Int32).toInt = 3 := (by decide +kernel); have b175 := Int32.toInt_lt (F_L_some (F_L_at xs1 len1 0) 4); have d175 := Int32.le_toInt (F_L_some (F_L_at xs1 len1 0) 4); have q173 := addI (a := (3 : Int32)) (b := (F_L_some (F_L_at xs1 len1 0) 4)) (by omega) (by omega); omega))
        rw [hy9] at hcon
        refine kr_ (va_runS (As := [.int ((F_L_at xs1 len1 9) >>> (1 &&& 31)), .int ((3 : Int32) + (F_L_some (F_L_at xs1 len1 0) 4))]) (rest := [.ref a0]) ⟨hx, hb, hml, hown, hts⟩ hcon (va_cwS 2 hts gL_makes_L_some rfl rfl rfl (by decide +kernel) ⟨Nat.le_of_ble_eq_true rfl, Nat.le_of_ble_eq_true rfl⟩) ⟨PR_.blind, PR_.pre hF hK (hP.sub [] rfl) hS hA [] rfl⟩ rfl rfl hl.1 rfl (lv_room (Nat.le_of_ble_eq_true rfl)) dL_makes_172 ⟨(adc_r0 hM), (adc_s0 hM)⟩) hP hS hA (fun H locs hP hS => ?_)
        subst hy9
        refine W.eq (g2 := F0 m 175 ls [.int (F_L_some ((F_L_at xs1 len1 9) >>> (1 &&& 31)) ((3 : Int32) + (F_L_some (F_L_at xs1 len1 0) 4))), .ref a0]) rfl ?_
        refine lv_iconst (v := 1) hx hb dL_makes_175 (by decide) ?_
        have hcon := (bl_L_district l hl0 D ad H.size b37 hBL_37 a0 hb9_37 x37_t hM9_37 (Bd + 3600 + 1200 * (x37_3 : Int32).toInt.toNat) hXI_37 (show ((Bd + 3600 + 1200 * (x37_3 : Int32).toInt.toNat) + 600) ≤ 900000 from (by have y0 := f_le c_3; have y1 := f_le c_5; have y2 := f_eq c_6; have z0 := hy0; have z1 := hBd; have z2 := e1_; have z3 := e3_; have z4 := e4_; have z5 := rs_; have z6 := en_; have z7 := hz_2; have z8 := hv_2_0; have z9 := hz_4; have z10 := hv_4_0; have e_0 : (0 : Int32).toInt = 0 := (by decide +kernel); have e_8 : (8 : Int32).toInt = 8 := (by decide +kernel); have l176 : (4 : Int32).toInt = 4 := (by decide +kernel); have rsm := R_L_some (F_L_at xs1 len1 0) 4 (by omega); omega)) (F_L_some ((F_L_at xs1 len1 9) >>> (1 &&& 31)) ((3 : Int32) + (F_L_some (F_L_at xs1 len1 0) 4))) 1)
        generalize hy_11 : (F_L_district x37_t (F_L_some ((F_L_at xs1 len1 9) >>> (1 &&& 31)) ((3 : Int32) + (F_L_some (F_L_at xs1 len1 0) 4))) 1) = y9 at hcon hM
        obtain ⟨y176_0, y176_1, y176_2, y176_3⟩ := y9
        have hM : FF9 = (adc c_4 s_4 (adc y176_2 y176_3 (if y176_0 = 0 then (K_L_makes_198_1 (F_L_pass y176_1 ((1 : Int32) + (F_L_some (F_L_at xs1 len1 10) 25)))) else (0, y176_1, 0, 0)))) := hM
        refine kwb_ [] [] (vx_runSW (As := [.ref a0, .int (F_L_some ((F_L_at xs1 len1 9) >>> (1 &&& 31)) ((3 : Int32) + (F_L_some (F_L_at xs1 len1 0) 4))), .int 1]) (rest := []) ⟨hx, hb, hml, hown, hts⟩ hcon (vx_cwSW 3 hts gL_makes_L_district rfl rfl rfl (by decide +kernel) ⟨Nat.le_of_ble_eq_true rfl, Nat.le_of_ble_eq_true rfl⟩) ⟨PC_.blind, lw_pre (X := []) (Y := []) hF hK hP hD hS hA⟩ rfl rfl hl.1 rfl (lv_room (Nat.le_of_ble_eq_true rfl)) dL_makes_176 ⟨(adc_r1 hM), (adc_s1 hM)⟩) hK hP hD hS hA (fun b_11 H locs hpo hP hD hK hS => ?_)
        have hM : FF9 = (adc (c_4 + y176_2) (s_4 + y176_3) (if y176_0 = 0 then (K_L_makes_198_1 (F_L_pass y176_1 ((1 : Int32) + (F_L_some (F_L_at xs1 len1 10) 25)))) else (0, y176_1, 0, 0))) := hM.trans (adc_adc _ _ _ _ _)
        obtain ⟨hM9_11, hb9_11, hBL_11, hXI_11⟩ := hpo
        have hM9_11 : b_11.2.2.2 = y176_1 := hM9_11
        have hXI_11 : XI ((Bd + 3600 + 1200 * (x37_3 : Int32).toInt.toNat) + 600) y176_1 := hXI_11
        have hP : va_P D vwCl ([] ++ BWW ad b_11) H := hP
        have hD : va_D A ([] ++ BWW ad b_11) := hD
        have hK : va_K D vwCl ([] ++ BWT b_11) s := hK
        refine W.eq (g2 := F0 m 179 ls [.int y176_0]) rfl ?_
        refine lv_if_eq (tgt := 184) hx hb dL_makes_179 (by decide) (fun c_12 => ?_) (fun c_12 => ?_)
        · rw [if_pos c_12] at hM
          refine lv_aload_n hx hb dL_makes_184 rfl (lv_at hl 2 rfl) ?_
          refine lv_iconst (v := 1) hx hb dL_makes_185 (by decide) ?_
          refine lv_aload_n hx hb dL_makes_186 rfl (lv_at hl 3 rfl) ?_
          refine lv_bipush (v := 10) hx hb dL_makes_187 (by decide) ?_
          obtain ⟨y9, hy9⟩ : ∃ y9, (F_L_at xs1 len1 10) = y9 := ⟨_, rfl⟩
          have hcon := (c_L_at l hl0 ad H.size sb len1 xs1 10 hy0 (by decide +kernel))
          rw [hy9] at hcon
          refine kr_ (va_runS (As := [.ref sb, .int 10]) (rest := [.int 1, .ref a0]) ⟨hx, hb, hml, hown, hts⟩ hcon (va_cwS 2 hts gL_makes_L_at rfl rfl rfl (by decide +kernel) ⟨Nat.le_of_ble_eq_true rfl, Nat.le_of_ble_eq_true rfl⟩) ⟨PRX_.blind, PRX_.pre hF hX hbl hbA hS hA⟩ rfl rfl hl.1 rfl (lv_room (Nat.le_of_ble_eq_true rfl)) dL_makes_189 ⟨(adc_r0 hM), (adc_s0 hM)⟩) hP hS hA (fun H locs hP hS => ?_)
          subst hy9
          refine W.eq (g2 := F0 m 192 ls [.int (F_L_at xs1 len1 10), .int 1, .ref a0]) rfl ?_
          refine lv_bipush (v := 25) hx hb dL_makes_192 (by decide) ?_
          obtain ⟨y9, hy9⟩ : ∃ y9, (F_L_some (F_L_at xs1 len1 10) 25) = y9 := ⟨_, rfl⟩
          have hcon := (c_L_some l hl0 D ad H.size (F_L_at xs1 len1 10) 25 (by decide +kernel))
          rw [hy9] at hcon
          refine kr_ (va_runS (As := [.int (F_L_at xs1 len1 10), .int 25]) (rest := [.int 1, .ref a0]) ⟨hx, hb, hml, hown, hts⟩ hcon (va_cwS 2 hts gL_makes_L_some rfl rfl rfl (by decide +kernel) ⟨Nat.le_of_ble_eq_true rfl, Nat.le_of_ble_eq_true rfl⟩) ⟨PR_.blind, PR_.pre hF hK (hP.sub [] rfl) hS hA [] rfl⟩ rfl rfl hl.1 rfl (lv_room (Nat.le_of_ble_eq_true rfl)) dL_makes_194 ⟨(adc_r0 hM), (adc_s0 hM)⟩) hP hS hA (fun H locs hP hS => ?_)
          subst hy9
          refine W.eq (g2 := F0 m 197 ls [.int (F_L_some (F_L_at xs1 len1 10) 25), .int 1, .ref a0]) rfl ?_
          refine lv_iadd hx hb dL_makes_197 ?_
          have hcon := (bl_L_pass l hl0 D ad H.size b_11 hBL_11 a0 hb9_11 y176_1 hM9_11 ((Bd + 3600 + 1200 * (x37_3 : Int32).toInt.toNat) + 600) hXI_11 (show (((Bd + 3600 + 1200 * (x37_3 : Int32).toInt.toNat) + 600) + 600) ≤ 900000 from (by have y0 := f_le c_3; have y1 := f_le c_5; have y2 := f_eq c_6; have y3 := f_eq c_12; have z0 := hy0; have z1 := hBd; have z2 := e1_; have z3 := e3_; have z4 := e4_; have z5 := rs_; have z6 := en_; have z7 := hz_2; have z8 := hv_2_0; have z9 := hz_4; have z10 := hv_4_0; have e_0 : (0 : Int32).toInt = 0 := (by decide +kernel); have e_8 : (8 : Int32).toInt = 8 := (by decide +kernel); have l177 : (4 : Int32).toInt = 4 := (by decide +kernel); have rsm := R_L_some (F_L_at xs1 len1 0) 4 (by omega); omega)) ((1 : Int32) + (F_L_some (F_L_at xs1 len1 10) 25)))
          generalize hy_14 : (F_L_pass y176_1 ((1 : Int32) + (F_L_some (F_L_at xs1 len1 10) 25))) = y9 at hcon hM
          obtain ⟨y198_0, y198_1, y198_2, y198_3⟩ := y9
          have hM : FF9 = (adc (c_4 + y176_2) (s_4 + y176_3) (adc y198_2 y198_3 (if y198_0 < 0 then (0, y198_1, 0, 0) else (1, y198_1, 0, 0)))) := hM
          refine kwb_ [] [] (vx_runSW (As := [.ref a0, .int ((1 : Int32) + (F_L_some (F_L_at xs1 len1 10) 25))]) (rest := []) ⟨hx, hb, hml, hown, hts⟩ hcon (vx_cwSW 2 hts gL_makes_L_pass rfl rfl rfl (by decide +kernel) ⟨Nat.le_of_ble_eq_true rfl, Nat.le_of_ble_eq_true rfl⟩) ⟨PC_.blind, lw_pre (X := []) (Y := []) hF hK hP hD hS hA⟩ rfl rfl hl.1 rfl (lv_room (Nat.le_of_ble_eq_true rfl)) dL_makes_198 ⟨(adc_r1 hM), (adc_s1 hM)⟩) hK hP hD hS hA (fun b_14 H locs hpo hP hD hK hS => ?_)
          have hM : FF9 = (adc ((c_4 + y176_2) + y198_2) ((s_4 + y176_3) + y198_3) (if y198_0 < 0 then (0, y198_1, 0, 0) else (1, y198_1, 0, 0))) := hM.trans (adc_adc _ _ _ _ _)
          obtain ⟨hM9_14, hb9_14, hBL_14, hXI_14⟩ := hpo
          have hM9_14 : b_14.2.2.2 = y198_1 := hM9_14
          have hXI_14 : XI (((Bd + 3600 + 1200 * (x37_3 : Int32).toInt.toNat) + 600) + 600) y198_1 := hXI_14
          have hP : va_P D vwCl ([] ++ BWW ad b_14) H := hP
          have hD : va_D A ([] ++ BWW ad b_14) := hD
          have hK : va_K D vwCl ([] ++ BWT b_14) s := hK
          refine W.eq (g2 := F0 m 201 ls [.int y198_0]) rfl ?_
          refine lv_if_lt (tgt := 208) hx hb dL_makes_201 (by decide) (fun c_15 => ?_) (fun c_15 => ?_)
          · rw [if_pos c_15] at hM
            refine lv_iconst (v := 0) hx hb dL_makes_208 (by decide) ?_
            refine W.widen (k := (FF9).2.2.1) (n := (FF9).2.2.2) (Nat.le_of_eq (by rw [hM]; first | done | rfl)) (Nat.le_of_eq (by rw [hM]; first | done | rfl)) ?_
            exact W.zret (v := 0) hx hb hr rfl (lw_ret (X := []) (Y := []) b_14 hP hD hK hS (by rw [hM]; first | done | rfl) ⟨(by rw [hM]; exact hM9_14), hb9_14, hBL_14, (by rw [hM]; exact XI.mono hXI_14 (show (((Bd + 3600 + 1200 * (x37_3 : Int32).toInt.toNat) + 600) + 600) ≤ Bd + 16000 from (by have y0 := f_le c_3; have y1 := f_le c_5; have y2 := f_eq c_6; have y3 := f_eq c_12; have y4 := f_lt c_15; have z0 := hy0; have z1 := hBd; have z2 := e1_; have z3 := e3_; have z4 := e4_; have z5 := rs_; have z6 := en_; have z7 := hz_2; have z8 := hv_2_0; have z9 := hz_4; have z10 := hv_4_0; have e_0 : (0 : Int32).toInt = 0 := (by decide +kernel); have e_8 : (8 : Int32).toInt = 8 := (by decide +kernel); have l178 : (4 : Int32).toInt = 4 := (by decide +kernel); have rsm := R_L_some (F_L_at xs1 len1 0) 4 (by omega); omega)))⟩) hS.2.2 dL_makes_209
          · rw [if_neg c_15] at hM
            refine lv_iconst (v := 1) hx hb dL_makes_204 (by decide) ?_
            refine lv_goto (tgt := 209) hx hb dL_makes_205 (by decide) ?_
            refine W.widen (k := (FF9).2.2.1) (n := (FF9).2.2.2) (Nat.le_of_eq (by rw [hM]; first | done | rfl)) (Nat.le_of_eq (by rw [hM]; first | done | rfl)) ?_
            exact W.zret (v := 1) hx hb hr rfl (lw_ret (X := []) (Y := []) b_14 hP hD hK hS (by rw [hM]; first | done | rfl) ⟨(by rw [hM]; exact hM9_14), hb9_14, hBL_14, (by rw [hM]; exact XI.mono hXI_14 (show (((Bd + 3600 + 1200 * (x37_3 : Int32).toInt.toNat) + 600) + 600) ≤ Bd + 16000 from (by have y0 := f_le c_3; have y1 := f_le c_5; have y2 := f_eq c_6; have y3 := f_eq c_12; have y4 := f_nlt c_15; have z0 := hy0; have z1 := hBd; have z2 := e1_; have z3 := e3_; have z4 := e4_; have z5 := rs_; have z6 := en_; have z7 := hz_2; have z8 := hv_2_0; have z9 := hz_4; have z10 := hv_4_0; have e_0 : (0 : Int32).toInt = 0 := (by decide +kernel); have e_8 : (8 : Int32).toInt = 8 := (by decide +kernel); have l179 : (4 : Int32).toInt = 4 := (by decide +kernel); have rsm := R_L_some (F_L_at xs1 len1 0) 4 (by omega); omega)))⟩) hS.2.2 dL_makes_209
        · rw [if_neg c_12] at hM
          refine lv_iconst (v := 0) hx hb dL_makes_182 (by decide) ?_
          refine W.widen (k := (FF9).2.2.1) (n := (FF9).2.2.2) (Nat.le_of_eq (by rw [hM]; first | done | rfl)) (Nat.le_of_eq (by rw [hM]; first | done | rfl)) ?_
          exact W.zret (v := 0) hx hb hr rfl (lw_ret (X := []) (Y := []) b_11 hP hD hK hS (by rw [hM]; first | done | rfl) ⟨(by rw [hM]; exact hM9_11), hb9_11, hBL_11, (by rw [hM]; exact XI.mono hXI_11 (show ((Bd + 3600 + 1200 * (x37_3 : Int32).toInt.toNat) + 600) ≤ Bd + 16000 from (by have y0 := f_le c_3; have y1 := f_le c_5; have y2 := f_eq c_6; have y3 := f_neq c_12; have z0 := hy0; have z1 := hBd; have z2 := e1_; have z3 := e3_; have z4 := e4_; have z5 := rs_; have z6 := en_; have z7 := hz_2; have z8 := hv_2_0; have z9 := hz_4; have z10 := hv_4_0; have e_0 : (0 : Int32).toInt = 0 := (by decide +kernel); have e_8 : (8 : Int32).toInt = 8 := (by decide +kernel); have l180 : (4 : Int32).toInt = 4 := (by decide +kernel); have rsm := R_L_some (F_L_at xs1 len1 0) 4 (by omega); omega)))⟩) hS.2.2 dL_makes_183
    · rw [if_neg c_5] at hM
      refine lv_aload_n hx hb dL_makes_43 rfl (lv_at hl 3 rfl) ?_
      refine lv_iconst (v := 1) hx hb dL_makes_44 (by decide) ?_
      refine lv_iload_n hx hb dL_makes_45 rfl (lv_at hl 0 rfl) ?_
      refine lv_iadd hx hb dL_makes_46 ?_
      obtain ⟨y9, hy9⟩ : ∃ y9, (F_L_at xs1 len1 ((1 : Int32) + x37_3)) = y9 := ⟨_, rfl⟩
      have hcon := (c_L_at l hl0 ad H.size sb len1 xs1 ((1 : Int32) + x37_3) hy0 (by have y0 := f_le c_3; have y1 := f_nle c_5; have z0 := hy0; have z1 := hBd; have z2 := e1_; have z3 := e3_; have z4 := e4_; have z5 := rs_; have z6 := en_; have z7 := hz_2; have z8 := hv_2_0; have z9 := hz_4; have z10 := hv_4_0; have e_8 : (8 : Int32).toInt = 8 := (by decide +kernel); have l185 : (4 : Int32).toInt = 4 := (by decide +kernel); have rsm := R_L_some (F_L_at xs1 len1 0) 4 (by omega); have l187 : (1 : Int32).toInt = 1 := (by decide +kernel); have b188 := Int32.toInt_lt (x37_3); have d188 := Int32.le_toInt (x37_3); have q186 := addI (a := (1 : Int32)) (b := x37_3) (by omega) (by omega); omega))
      rw [hy9] at hcon
      refine kr_ (va_runS (As := [.ref sb, .int ((1 : Int32) + x37_3)]) (rest := []) ⟨hx, hb, hml, hown, hts⟩ hcon (va_cwS 2 hts gL_makes_L_at rfl rfl rfl (by decide +kernel) ⟨Nat.le_of_ble_eq_true rfl, Nat.le_of_ble_eq_true rfl⟩) ⟨PRX_.blind, PRX_.pre hF hX hbl hbA hS hA⟩ rfl rfl hl.1 rfl (lv_room (Nat.le_of_ble_eq_true rfl)) dL_makes_47 ⟨(adc_r0 hM), (adc_s0 hM)⟩) hP hS hA (fun H locs hP hS => ?_)
      subst hy9
      refine W.eq (g2 := F0 m 50 ls [.int (F_L_at xs1 len1 ((1 : Int32) + x37_3))]) rfl ?_
      refine lv_iload_n hx hb dL_makes_50 rfl (lv_at hl 0 rfl) ?_
      refine lv_sipush (v := 7919) hx hb dL_makes_51 (by decide +kernel) ?_
      refine lv_imul hx hb dL_makes_54 ?_
      refine lv_ixor hx hb dL_makes_55 ?_
      refine lv_istore (lv' := [(4, .int ((F_L_at xs1 len1 ((1 : Int32) + x37_3)) ^^^ (x37_3 * 7919))), (3, .int x37_3), (2, .int ((3 : Int32) + (F_L_some (F_L_at xs1 len1 0) 4))), (0, .ref a0), (1, .ref sb)]) hx hb dL_makes_56 hl (by decide) rfl (fun ls hl => ?_)
      refine lv_iload hx hb dL_makes_58 (lv_at hl 0 rfl) ?_
      refine lv_iload_n hx hb dL_makes_60 rfl (lv_at hl 2 rfl) ?_
      obtain ⟨y9, hy9⟩ : ∃ y9, (F_L_some ((F_L_at xs1 len1 ((1 : Int32) + x37_3)) ^^^ (x37_3 * 7919)) ((3 : Int32) + (F_L_some (F_L_at xs1 len1 0) 4))) = y9 := ⟨_, rfl⟩
      have hcon := (c_L_some l hl0 D ad H.size ((F_L_at xs1 len1 ((1 : Int32) + x37_3)) ^^^ (x37_3 * 7919)) ((3 : Int32) + (F_L_some (F_L_at xs1 len1 0) 4)) (by have y0 := f_le c_3; have y1 := f_nle c_5; have z0 := hy0; have z1 := hBd; have z2 := e1_; have z3 := e3_; have z4 := e4_; have z5 := rs_; have z6 := en_; have z7 := hz_2; have z8 := hv_2_0; have z9 := hz_4; have z10 := hv_4_0; have e_8 : (8 : Int32).toInt = 8 := (by decide +kernel); have l193 : (4 : Int32).toInt = 4 := (by decide +kernel); have rsm := R_L_some (F_L_at xs1 len1 0) 4 (by omega); have l195 : (3 : Int32).toInt = 3 := (by decide +kernel); have b196 := Int32.toInt_lt (F_L_some (F_L_at xs1 len1 0) 4); have d196 := Int32.le_toInt (F_L_some (F_L_at xs1 len1 0) 4); have q194 := addI (a := (3 : Int32)) (b := (F_L_some (F_L_at xs1 len1 0) 4)) (by omega) (by omega); omega))
      rw [hy9] at hcon
      refine kr_ (va_runS (As := [.int ((F_L_at xs1 len1 ((1 : Int32) + x37_3)) ^^^ (x37_3 * 7919)), .int ((3 : Int32) + (F_L_some (F_L_at xs1 len1 0) 4))]) (rest := []) ⟨hx, hb, hml, hown, hts⟩ hcon (va_cwS 2 hts gL_makes_L_some rfl rfl rfl (by decide +kernel) ⟨Nat.le_of_ble_eq_true rfl, Nat.le_of_ble_eq_true rfl⟩) ⟨PR_.blind, PR_.pre hF hK (hP.sub [] rfl) hS hA [] rfl⟩ rfl rfl hl.1 rfl (lv_room (Nat.le_of_ble_eq_true rfl)) dL_makes_61 ⟨(adc_r0 hM), (adc_s0 hM)⟩) hP hS hA (fun H locs hP hS => ?_)
      subst hy9
      refine W.eq (g2 := F0 m 64 ls [.int (F_L_some ((F_L_at xs1 len1 ((1 : Int32) + x37_3)) ^^^ (x37_3 * 7919)) ((3 : Int32) + (F_L_some (F_L_at xs1 len1 0) 4)))]) rfl ?_
      refine lv_istore (lv' := [(5, .int (F_L_some ((F_L_at xs1 len1 ((1 : Int32) + x37_3)) ^^^ (x37_3 * 7919)) ((3 : Int32) + (F_L_some (F_L_at xs1 len1 0) 4)))), (4, .int ((F_L_at xs1 len1 ((1 : Int32) + x37_3)) ^^^ (x37_3 * 7919))), (3, .int x37_3), (2, .int ((3 : Int32) + (F_L_some (F_L_at xs1 len1 0) 4))), (0, .ref a0), (1, .ref sb)]) hx hb dL_makes_64 hl (by decide) rfl (fun ls hl => ?_)
      refine lv_iload hx hb dL_makes_66 (lv_at hl 1 rfl) ?_
      refine lv_iconst (v := 3) hx hb dL_makes_68 (by decide) ?_
      refine lv_ishr hx hb dL_makes_69 ?_
      refine lv_iload_n hx hb dL_makes_70 rfl (lv_at hl 3 rfl) ?_
      obtain ⟨y9, hy9⟩ : ∃ y9, (F_L_some (((F_L_at xs1 len1 ((1 : Int32) + x37_3)) ^^^ (x37_3 * 7919)) >>> (3 &&& 31)) ((3 : Int32) + (F_L_some (F_L_at xs1 len1 0) 4))) = y9 := ⟨_, rfl⟩
      have hcon := (c_L_some l hl0 D ad H.size (((F_L_at xs1 len1 ((1 : Int32) + x37_3)) ^^^ (x37_3 * 7919)) >>> (3 &&& 31)) ((3 : Int32) + (F_L_some (F_L_at xs1 len1 0) 4)) (by have y0 := f_le c_3; have y1 := f_nle c_5; have z0 := hy0; have z1 := hBd; have z2 := e1_; have z3 := e3_; have z4 := e4_; have z5 := rs_; have z6 := en_; have z7 := hz_2; have z8 := hv_2_0; have z9 := hz_4; have z10 := hv_4_0; have e_8 : (8 : Int32).toInt = 8 := (by decide +kernel); have l201 : (4 : Int32).toInt = 4 := (by decide +kernel); have rsm := R_L_some (F_L_at xs1 len1 0) 4 (by omega); have l203 : (3 : Int32).toInt = 3 := (by decide +kernel); have b204 := Int32.toInt_lt (F_L_some (F_L_at xs1 len1 0) 4); have d204 := Int32.le_toInt (F_L_some (F_L_at xs1 len1 0) 4); have q202 := addI (a := (3 : Int32)) (b := (F_L_some (F_L_at xs1 len1 0) 4)) (by omega) (by omega); omega))
      rw [hy9] at hcon
      refine kr_ (va_runS (As := [.int (((F_L_at xs1 len1 ((1 : Int32) + x37_3)) ^^^ (x37_3 * 7919)) >>> (3 &&& 31)), .int ((3 : Int32) + (F_L_some (F_L_at xs1 len1 0) 4))]) (rest := []) ⟨hx, hb, hml, hown, hts⟩ hcon (va_cwS 2 hts gL_makes_L_some rfl rfl rfl (by decide +kernel) ⟨Nat.le_of_ble_eq_true rfl, Nat.le_of_ble_eq_true rfl⟩) ⟨PR_.blind, PR_.pre hF hK (hP.sub [] rfl) hS hA [] rfl⟩ rfl rfl hl.1 rfl (lv_room (Nat.le_of_ble_eq_true rfl)) dL_makes_71 ⟨(adc_r0 hM), (adc_s0 hM)⟩) hP hS hA (fun H locs hP hS => ?_)
      subst hy9
      refine W.eq (g2 := F0 m 74 ls [.int (F_L_some (((F_L_at xs1 len1 ((1 : Int32) + x37_3)) ^^^ (x37_3 * 7919)) >>> (3 &&& 31)) ((3 : Int32) + (F_L_some (F_L_at xs1 len1 0) 4)))]) rfl ?_
      refine lv_istore (lv' := [(6, .int (F_L_some (((F_L_at xs1 len1 ((1 : Int32) + x37_3)) ^^^ (x37_3 * 7919)) >>> (3 &&& 31)) ((3 : Int32) + (F_L_some (F_L_at xs1 len1 0) 4)))), (5, .int (F_L_some ((F_L_at xs1 len1 ((1 : Int32) + x37_3)) ^^^ (x37_3 * 7919)) ((3 : Int32) + (F_L_some (F_L_at xs1 len1 0) 4)))), (4, .int ((F_L_at xs1 len1 ((1 : Int32) + x37_3)) ^^^ (x37_3 * 7919))), (3, .int x37_3), (2, .int ((3 : Int32) + (F_L_some (F_L_at xs1 len1 0) 4))), (0, .ref a0), (1, .ref sb)]) hx hb dL_makes_74 hl (by decide) rfl (fun ls hl => ?_)
      refine lv_aload_n hx hb dL_makes_76 rfl (lv_at hl 5 rfl) ?_
      refine lv_iload hx hb dL_makes_77 (lv_at hl 1 rfl) ?_
      refine lv_iload hx hb dL_makes_79 (lv_at hl 0 rfl) ?_
      refine lv_iconst (v := 1) hx hb dL_makes_81 (by decide) ?_
      refine lv_iload hx hb dL_makes_82 (lv_at hl 2 rfl) ?_
      refine lv_bipush (v := 6) hx hb dL_makes_84 (by decide) ?_
      refine lv_ishr hx hb dL_makes_86 ?_
      refine lv_bipush (v := 9) hx hb dL_makes_87 (by decide) ?_
      obtain ⟨y9, hy9⟩ : ∃ y9, (F_L_some (((F_L_at xs1 len1 ((1 : Int32) + x37_3)) ^^^ (x37_3 * 7919)) >>> (6 &&& 31)) 9) = y9 := ⟨_, rfl⟩
      have hcon := (c_L_some l hl0 D ad H.size (((F_L_at xs1 len1 ((1 : Int32) + x37_3)) ^^^ (x37_3 * 7919)) >>> (6 &&& 31)) 9 (by decide +kernel))
      rw [hy9] at hcon
      refine kr_ (va_runS (As := [.int (((F_L_at xs1 len1 ((1 : Int32) + x37_3)) ^^^ (x37_3 * 7919)) >>> (6 &&& 31)), .int 9]) (rest := [.int 1, .int (F_L_some (((F_L_at xs1 len1 ((1 : Int32) + x37_3)) ^^^ (x37_3 * 7919)) >>> (3 &&& 31)) ((3 : Int32) + (F_L_some (F_L_at xs1 len1 0) 4))), .int (F_L_some ((F_L_at xs1 len1 ((1 : Int32) + x37_3)) ^^^ (x37_3 * 7919)) ((3 : Int32) + (F_L_some (F_L_at xs1 len1 0) 4))), .ref a0]) ⟨hx, hb, hml, hown, hts⟩ hcon (va_cwS 2 hts gL_makes_L_some rfl rfl rfl (by decide +kernel) ⟨Nat.le_of_ble_eq_true rfl, Nat.le_of_ble_eq_true rfl⟩) ⟨PR_.blind, PR_.pre hF hK (hP.sub [] rfl) hS hA [] rfl⟩ rfl rfl hl.1 rfl (lv_room (Nat.le_of_ble_eq_true rfl)) dL_makes_89 ⟨(adc_r0 hM), (adc_s0 hM)⟩) hP hS hA (fun H locs hP hS => ?_)
      subst hy9
      refine W.eq (g2 := F0 m 92 ls [.int (F_L_some (((F_L_at xs1 len1 ((1 : Int32) + x37_3)) ^^^ (x37_3 * 7919)) >>> (6 &&& 31)) 9), .int 1, .int (F_L_some (((F_L_at xs1 len1 ((1 : Int32) + x37_3)) ^^^ (x37_3 * 7919)) >>> (3 &&& 31)) ((3 : Int32) + (F_L_some (F_L_at xs1 len1 0) 4))), .int (F_L_some ((F_L_at xs1 len1 ((1 : Int32) + x37_3)) ^^^ (x37_3 * 7919)) ((3 : Int32) + (F_L_some (F_L_at xs1 len1 0) 4))), .ref a0]) rfl ?_
      refine lv_iadd hx hb dL_makes_92 ?_
      have hcon := (bl_L_canal l hl0 D ad H.size b37 hBL_37 a0 hb9_37 x37_t hM9_37 (Bd + 3600 + 1200 * (x37_3 : Int32).toInt.toNat) hXI_37 (show ((Bd + 3600 + 1200 * (x37_3 : Int32).toInt.toNat) + 600) ≤ 900000 from (by have y0 := f_le c_3; have y1 := f_nle c_5; have z0 := hy0; have z1 := hBd; have z2 := e1_; have z3 := e3_; have z4 := e4_; have z5 := rs_; have z6 := en_; have z7 := hz_2; have z8 := hv_2_0; have z9 := hz_4; have z10 := hv_4_0; have e_8 : (8 : Int32).toInt = 8 := (by decide +kernel); have l205 : (4 : Int32).toInt = 4 := (by decide +kernel); have rsm := R_L_some (F_L_at xs1 len1 0) 4 (by omega); omega)) (F_L_some ((F_L_at xs1 len1 ((1 : Int32) + x37_3)) ^^^ (x37_3 * 7919)) ((3 : Int32) + (F_L_some (F_L_at xs1 len1 0) 4))) (F_L_some (((F_L_at xs1 len1 ((1 : Int32) + x37_3)) ^^^ (x37_3 * 7919)) >>> (3 &&& 31)) ((3 : Int32) + (F_L_some (F_L_at xs1 len1 0) 4))) ((1 : Int32) + (F_L_some (((F_L_at xs1 len1 ((1 : Int32) + x37_3)) ^^^ (x37_3 * 7919)) >>> (6 &&& 31)) 9)))
      generalize hy_19 : (F_L_canal x37_t (F_L_some ((F_L_at xs1 len1 ((1 : Int32) + x37_3)) ^^^ (x37_3 * 7919)) ((3 : Int32) + (F_L_some (F_L_at xs1 len1 0) 4))) (F_L_some (((F_L_at xs1 len1 ((1 : Int32) + x37_3)) ^^^ (x37_3 * 7919)) >>> (3 &&& 31)) ((3 : Int32) + (F_L_some (F_L_at xs1 len1 0) 4))) ((1 : Int32) + (F_L_some (((F_L_at xs1 len1 ((1 : Int32) + x37_3)) ^^^ (x37_3 * 7919)) >>> (6 &&& 31)) 9))) = y9 at hcon hM
      obtain ⟨y93_0, y93_1, y93_2, y93_3⟩ := y9
      have hM : FF9 = (adc c_4 s_4 (adc y93_2 y93_3 (if 0 ≤ y93_0 then (if ((((F_L_at xs1 len1 ((1 : Int32) + x37_3)) ^^^ (x37_3 * 7919)) >>> (10 &&& 31)) &&& 3) = 0 then (K_L_makes_137 x37_3 (L_L_makes_37 len1 xs1 k_4) (F_L_pass y93_1 1)) else ((L_L_makes_37 len1 xs1 k_4) (x37_3 + 1) y93_1)) else (K_L_makes_106 len1 xs1 x37_3 (L_L_makes_37 len1 xs1 k_4) (F_L_reason y93_1 0 0))))) := hM
      refine kwb_ [] [] (vx_runSW (As := [.ref a0, .int (F_L_some ((F_L_at xs1 len1 ((1 : Int32) + x37_3)) ^^^ (x37_3 * 7919)) ((3 : Int32) + (F_L_some (F_L_at xs1 len1 0) 4))), .int (F_L_some (((F_L_at xs1 len1 ((1 : Int32) + x37_3)) ^^^ (x37_3 * 7919)) >>> (3 &&& 31)) ((3 : Int32) + (F_L_some (F_L_at xs1 len1 0) 4))), .int ((1 : Int32) + (F_L_some (((F_L_at xs1 len1 ((1 : Int32) + x37_3)) ^^^ (x37_3 * 7919)) >>> (6 &&& 31)) 9))]) (rest := []) ⟨hx, hb, hml, hown, hts⟩ hcon (vx_cwSW 4 hts gL_makes_L_canal rfl rfl rfl (by decide +kernel) ⟨Nat.le_of_ble_eq_true rfl, Nat.le_of_ble_eq_true rfl⟩) ⟨PC_.blind, lw_pre (X := []) (Y := []) hF hK hP hD hS hA⟩ rfl rfl hl.1 rfl (lv_room (Nat.le_of_ble_eq_true rfl)) dL_makes_93 ⟨(adc_r1 hM), (adc_s1 hM)⟩) hK hP hD hS hA (fun b_19 H locs hpo hP hD hK hS => ?_)
      have hM : FF9 = (adc (c_4 + y93_2) (s_4 + y93_3) (if 0 ≤ y93_0 then (if ((((F_L_at xs1 len1 ((1 : Int32) + x37_3)) ^^^ (x37_3 * 7919)) >>> (10 &&& 31)) &&& 3) = 0 then (K_L_makes_137 x37_3 (L_L_makes_37 len1 xs1 k_4) (F_L_pass y93_1 1)) else ((L_L_makes_37 len1 xs1 k_4) (x37_3 + 1) y93_1)) else (K_L_makes_106 len1 xs1 x37_3 (L_L_makes_37 len1 xs1 k_4) (F_L_reason y93_1 0 0)))) := hM.trans (adc_adc _ _ _ _ _)
      obtain ⟨hM9_19, hb9_19, hBL_19, hXI_19⟩ := hpo
      have hM9_19 : b_19.2.2.2 = y93_1 := hM9_19
      have hXI_19 : XI ((Bd + 3600 + 1200 * (x37_3 : Int32).toInt.toNat) + 600) y93_1 := hXI_19
      have hP : va_P D vwCl ([] ++ BWW ad b_19) H := hP
      have hD : va_D A ([] ++ BWW ad b_19) := hD
      have hK : va_K D vwCl ([] ++ BWT b_19) s := hK
      refine W.eq (g2 := F0 m 96 ls [.int y93_0]) rfl ?_
      refine lv_istore (lv' := [(7, .int y93_0), (6, .int (F_L_some (((F_L_at xs1 len1 ((1 : Int32) + x37_3)) ^^^ (x37_3 * 7919)) >>> (3 &&& 31)) ((3 : Int32) + (F_L_some (F_L_at xs1 len1 0) 4)))), (5, .int (F_L_some ((F_L_at xs1 len1 ((1 : Int32) + x37_3)) ^^^ (x37_3 * 7919)) ((3 : Int32) + (F_L_some (F_L_at xs1 len1 0) 4)))), (4, .int ((F_L_at xs1 len1 ((1 : Int32) + x37_3)) ^^^ (x37_3 * 7919))), (3, .int x37_3), (2, .int ((3 : Int32) + (F_L_some (F_L_at xs1 len1 0) 4))), (0, .ref a0), (1, .ref sb)]) hx hb dL_makes_96 hl (by decide) rfl (fun ls hl => ?_)
      refine lv_iload hx hb dL_makes_98 (lv_at hl 0 rfl) ?_
      refine lv_if_ge (tgt := 125) hx hb dL_makes_100 (by decide) (fun c_20 => ?_) (fun c_20 => ?_)
      · rw [if_pos c_20] at hM
        refine lv_iload hx hb dL_makes_125 (lv_at hl 3 rfl) ?_
        refine lv_bipush (v := 10) hx hb dL_makes_127 (by decide) ?_
        refine lv_ishr hx hb dL_makes_129 ?_
        refine lv_iconst (v := 3) hx hb dL_makes_130 (by decide) ?_
        refine lv_iand hx hb dL_makes_131 ?_
        refine lv_if_ne (tgt := 145) hx hb dL_makes_132 (by decide) (fun c_21 => ?_) (fun c_21 => ?_)
        · rw [if_neg c_21] at hM
          refine lv_iinc (v := (x37_3 + 1)) (lv' := [(3, .int (x37_3 + 1)), (7, .int y93_0), (6, .int (F_L_some (((F_L_at xs1 len1 ((1 : Int32) + x37_3)) ^^^ (x37_3 * 7919)) >>> (3 &&& 31)) ((3 : Int32) + (F_L_some (F_L_at xs1 len1 0) 4)))), (5, .int (F_L_some ((F_L_at xs1 len1 ((1 : Int32) + x37_3)) ^^^ (x37_3 * 7919)) ((3 : Int32) + (F_L_some (F_L_at xs1 len1 0) 4)))), (4, .int ((F_L_at xs1 len1 ((1 : Int32) + x37_3)) ^^^ (x37_3 * 7919))), (2, .int ((3 : Int32) + (F_L_some (F_L_at xs1 len1 0) 4))), (0, .ref a0), (1, .ref sb)]) hx hb dL_makes_145 hl (k := 4) rfl rfl (by decide) rfl (fun ls hl => ?_)
          refine lv_goto (tgt := 37) hx hb dL_makes_148 (by decide) ?_
          exact ih_4 ((x37_3 + 1), y93_1) _ _ _ _ _ ⟨b_19, lp_up hk_4 c_5, lp_up0 hz_4 c_5, hM9_19, hb9_19, hBL_19, XI.mono hXI_19 (show ((Bd + 3600 + 1200 * (x37_3 : Int32).toInt.toNat) + 600) ≤ (Bd + 3600 + 1200 * ((x37_3 + 1) : Int32).toInt.toNat) from (by have y0 := f_le c_3; have y1 := f_nle c_5; have y2 := f_le c_20; have y3 := f_neq c_21; have z0 := hy0; have z1 := hBd; have z2 := e1_; have z3 := e3_; have z4 := e4_; have z5 := rs_; have z6 := en_; have z7 := hz_2; have z8 := hv_2_0; have z9 := hz_4; have z10 := hv_4_0; have e_0 : (0 : Int32).toInt = 0 := (by decide +kernel); have e_8 : (8 : Int32).toInt = 8 := (by decide +kernel); have l210 : (4 : Int32).toInt = 4 := (by decide +kernel); have rsm := R_L_some (F_L_at xs1 len1 0) 4 (by omega); have b212 := Int32.toInt_lt (x37_3); have d212 := Int32.le_toInt (x37_3); have l213 : (1 : Int32).toInt = 1 := (by decide +kernel); have q211 := addI (a := x37_3) (b := 1) (by omega) (by omega); omega)), (show ((x37_3 + 1) : Int32).toInt ≤ 8 from (by have y0 := f_le c_3; have y1 := f_nle c_5; have y2 := f_le c_20; have y3 := f_neq c_21; have z0 := hy0; have z1 := hBd; have z2 := e1_; have z3 := e3_; have z4 := e4_; have z5 := rs_; have z6 := en_; have z7 := hz_2; have z8 := hv_2_0; have z9 := hz_4; have z10 := hv_4_0; have e_0 : (0 : Int32).toInt = 0 := (by decide +kernel); have e_8 : (8 : Int32).toInt = 8 := (by decide +kernel); have l206 : (4 : Int32).toInt = 4 := (by decide +kernel); have rsm := R_L_some (F_L_at xs1 len1 0) 4 (by omega); have b208 := Int32.toInt_lt (x37_3); have d208 := Int32.le_toInt (x37_3); have l209 : (1 : Int32).toInt = 1 := (by decide +kernel); have q207 := addI (a := x37_3) (b := 1) (by omega) (by omega); omega)), hK, hP, hD, hS, lv_sub hl [0, 5, 6, 7] rfl, hM⟩
        · rw [if_pos c_21] at hM
          refine lv_aload_n hx hb dL_makes_135 rfl (lv_at hl 6 rfl) ?_
          refine lv_iconst (v := 1) hx hb dL_makes_136 (by decide) ?_
          have hcon := (bl_L_pass l hl0 D ad H.size b_19 hBL_19 a0 hb9_19 y93_1 hM9_19 ((Bd + 3600 + 1200 * (x37_3 : Int32).toInt.toNat) + 600) hXI_19 (show (((Bd + 3600 + 1200 * (x37_3 : Int32).toInt.toNat) + 600) + 600) ≤ 900000 from (by have y0 := f_le c_3; have y1 := f_nle c_5; have y2 := f_le c_20; have y3 := f_eq c_21; have z0 := hy0; have z1 := hBd; have z2 := e1_; have z3 := e3_; have z4 := e4_; have z5 := rs_; have z6 := en_; have z7 := hz_2; have z8 := hv_2_0; have z9 := hz_4; have z10 := hv_4_0; have e_0 : (0 : Int32).toInt = 0 := (by decide +kernel); have e_8 : (8 : Int32).toInt = 8 := (by decide +kernel); have l214 : (4 : Int32).toInt = 4 := (by decide +kernel); have rsm := R_L_some (F_L_at xs1 len1 0) 4 (by omega); omega)) 1)
          generalize hy_22 : (F_L_pass y93_1 1) = y9 at hcon hM
          obtain ⟨y137_0, y137_1, y137_2, y137_3⟩ := y9
          have hM : FF9 = (adc (c_4 + y93_2) (s_4 + y93_3) (adc y137_2 y137_3 (if 0 ≤ y137_0 then ((L_L_makes_37 len1 xs1 k_4) (x37_3 + 1) y137_1) else (0, y137_1, 0, 0)))) := hM
          refine kwb_ [] [] (vx_runSW (As := [.ref a0, .int 1]) (rest := []) ⟨hx, hb, hml, hown, hts⟩ hcon (vx_cwSW 2 hts gL_makes_L_pass rfl rfl rfl (by decide +kernel) ⟨Nat.le_of_ble_eq_true rfl, Nat.le_of_ble_eq_true rfl⟩) ⟨PC_.blind, lw_pre (X := []) (Y := []) hF hK hP hD hS hA⟩ rfl rfl hl.1 rfl (lv_room (Nat.le_of_ble_eq_true rfl)) dL_makes_137 ⟨(adc_r1 hM), (adc_s1 hM)⟩) hK hP hD hS hA (fun b_22 H locs hpo hP hD hK hS => ?_)
          have hM : FF9 = (adc ((c_4 + y93_2) + y137_2) ((s_4 + y93_3) + y137_3) (if 0 ≤ y137_0 then ((L_L_makes_37 len1 xs1 k_4) (x37_3 + 1) y137_1) else (0, y137_1, 0, 0))) := hM.trans (adc_adc _ _ _ _ _)
          obtain ⟨hM9_22, hb9_22, hBL_22, hXI_22⟩ := hpo
          have hM9_22 : b_22.2.2.2 = y137_1 := hM9_22
          have hXI_22 : XI (((Bd + 3600 + 1200 * (x37_3 : Int32).toInt.toNat) + 600) + 600) y137_1 := hXI_22
          have hP : va_P D vwCl ([] ++ BWW ad b_22) H := hP
          have hD : va_D A ([] ++ BWW ad b_22) := hD
          have hK : va_K D vwCl ([] ++ BWT b_22) s := hK
          refine W.eq (g2 := F0 m 140 ls [.int y137_0]) rfl ?_
          refine lv_if_ge (tgt := 145) hx hb dL_makes_140 (by decide) (fun c_23 => ?_) (fun c_23 => ?_)
          · rw [if_pos c_23] at hM
            refine lv_iinc (v := (x37_3 + 1)) (lv' := [(3, .int (x37_3 + 1)), (7, .int y93_0), (6, .int (F_L_some (((F_L_at xs1 len1 ((1 : Int32) + x37_3)) ^^^ (x37_3 * 7919)) >>> (3 &&& 31)) ((3 : Int32) + (F_L_some (F_L_at xs1 len1 0) 4)))), (5, .int (F_L_some ((F_L_at xs1 len1 ((1 : Int32) + x37_3)) ^^^ (x37_3 * 7919)) ((3 : Int32) + (F_L_some (F_L_at xs1 len1 0) 4)))), (4, .int ((F_L_at xs1 len1 ((1 : Int32) + x37_3)) ^^^ (x37_3 * 7919))), (2, .int ((3 : Int32) + (F_L_some (F_L_at xs1 len1 0) 4))), (0, .ref a0), (1, .ref sb)]) hx hb dL_makes_145 hl (k := 4) rfl rfl (by decide) rfl (fun ls hl => ?_)
            refine lv_goto (tgt := 37) hx hb dL_makes_148 (by decide) ?_
            exact ih_4 ((x37_3 + 1), y137_1) _ _ _ _ _ ⟨b_22, lp_up hk_4 c_5, lp_up0 hz_4 c_5, hM9_22, hb9_22, hBL_22, XI.mono hXI_22 (show (((Bd + 3600 + 1200 * (x37_3 : Int32).toInt.toNat) + 600) + 600) ≤ (Bd + 3600 + 1200 * ((x37_3 + 1) : Int32).toInt.toNat) from (by have y0 := f_le c_3; have y1 := f_nle c_5; have y2 := f_le c_20; have y3 := f_eq c_21; have y4 := f_le c_23; have z0 := hy0; have z1 := hBd; have z2 := e1_; have z3 := e3_; have z4 := e4_; have z5 := rs_; have z6 := en_; have z7 := hz_2; have z8 := hv_2_0; have z9 := hz_4; have z10 := hv_4_0; have e_0 : (0 : Int32).toInt = 0 := (by decide +kernel); have e_8 : (8 : Int32).toInt = 8 := (by decide +kernel); have l219 : (4 : Int32).toInt = 4 := (by decide +kernel); have rsm := R_L_some (F_L_at xs1 len1 0) 4 (by omega); have b221 := Int32.toInt_lt (x37_3); have d221 := Int32.le_toInt (x37_3); have l222 : (1 : Int32).toInt = 1 := (by decide +kernel); have q220 := addI (a := x37_3) (b := 1) (by omega) (by omega); omega)), (show ((x37_3 + 1) : Int32).toInt ≤ 8 from (by have y0 := f_le c_3; have y1 := f_nle c_5; have y2 := f_le c_20; have y3 := f_eq c_21; have y4 := f_le c_23; have z0 := hy0; have z1 := hBd; have z2 := e1_; have z3 := e3_; have z4 := e4_; have z5 := rs_; have z6 := en_; have z7 := hz_2; have z8 := hv_2_0; have z9 := hz_4; have z10 := hv_4_0; have e_0 : (0 : Int32).toInt = 0 := (by decide +kernel); have e_8 : (8 : Int32).toInt = 8 := (by decide +kernel); have l215 : (4 : Int32).toInt = 4 := (by decide +kernel); have rsm := R_L_some (F_L_at xs1 len1 0) 4 (by omega); have b217 := Int32.toInt_lt (x37_3); have d217 := Int32.le_toInt (x37_3); have l218 : (1 : Int32).toInt = 1 := (by decide +kernel); have q216 := addI (a := x37_3) (b := 1) (by omega) (by omega); omega)), hK, hP, hD, hS, lv_sub hl [0, 5, 6, 7] rfl, hM⟩
          · rw [if_neg c_23] at hM
            refine lv_iconst (v := 0) hx hb dL_makes_143 (by decide) ?_
            refine W.widen (k := (FF9).2.2.1) (n := (FF9).2.2.2) (Nat.le_of_eq (by rw [hM]; first | done | rfl)) (Nat.le_of_eq (by rw [hM]; first | done | rfl)) ?_
            exact W.zret (v := 0) hx hb hr rfl (lw_ret (X := []) (Y := []) b_22 hP hD hK hS (by rw [hM]; first | done | rfl) ⟨(by rw [hM]; exact hM9_22), hb9_22, hBL_22, (by rw [hM]; exact XI.mono hXI_22 (show (((Bd + 3600 + 1200 * (x37_3 : Int32).toInt.toNat) + 600) + 600) ≤ Bd + 16000 from (by have y0 := f_le c_3; have y1 := f_nle c_5; have y2 := f_le c_20; have y3 := f_eq c_21; have y4 := f_nle c_23; have z0 := hy0; have z1 := hBd; have z2 := e1_; have z3 := e3_; have z4 := e4_; have z5 := rs_; have z6 := en_; have z7 := hz_2; have z8 := hv_2_0; have z9 := hz_4; have z10 := hv_4_0; have e_0 : (0 : Int32).toInt = 0 := (by decide +kernel); have e_8 : (8 : Int32).toInt = 8 := (by decide +kernel); have l223 : (4 : Int32).toInt = 4 := (by decide +kernel); have rsm := R_L_some (F_L_at xs1 len1 0) 4 (by omega); omega)))⟩) hS.2.2 dL_makes_144
      · rw [if_neg c_20] at hM
        refine lv_aload_n hx hb dL_makes_103 rfl (lv_at hl 6 rfl) ?_
        refine lv_iconst (v := 0) hx hb dL_makes_104 (by decide) ?_
        refine lv_iconst (v := 0) hx hb dL_makes_105 (by decide) ?_
        have hcon := (bl_L_reason l hl0 D ad H.size b_19 hBL_19 a0 hb9_19 y93_1 hM9_19 ((Bd + 3600 + 1200 * (x37_3 : Int32).toInt.toNat) + 600) hXI_19 (show ((Bd + 3600 + 1200 * (x37_3 : Int32).toInt.toNat) + 600) ≤ 900000 from (by have y0 := f_le c_3; have y1 := f_nle c_5; have y2 := f_nle c_20; have z0 := hy0; have z1 := hBd; have z2 := e1_; have z3 := e3_; have z4 := e4_; have z5 := rs_; have z6 := en_; have z7 := hz_2; have z8 := hv_2_0; have z9 := hz_4; have z10 := hv_4_0; have e_0 : (0 : Int32).toInt = 0 := (by decide +kernel); have e_8 : (8 : Int32).toInt = 8 := (by decide +kernel); have l224 : (4 : Int32).toInt = 4 := (by decide +kernel); have rsm := R_L_some (F_L_at xs1 len1 0) 4 (by omega); omega)) 0 0)
        generalize hy_24 : (F_L_reason y93_1 0 0) = y9 at hcon hM
        obtain ⟨y106_0, y106_1, y106_2, y106_3⟩ := y9
        have hM : FF9 = (adc (c_4 + y93_2) (s_4 + y93_3) (adc y106_2 y106_3 (if y106_0 = 4 then (if ((((F_L_at xs1 len1 ((1 : Int32) + x37_3)) ^^^ (x37_3 * 7919)) >>> (10 &&& 31)) &&& 3) = 0 then (K_L_makes_137_1 x37_3 (L_L_makes_37 len1 xs1 k_4) (F_L_pass y106_1 1)) else ((L_L_makes_37 len1 xs1 k_4) (x37_3 + 1) y106_1)) else (K_L_makes_116 len1 xs1 x37_3 (L_L_makes_37 len1 xs1 k_4) (F_L_reason y106_1 0 0))))) := hM
        refine kwb_ [] [] (vx_runSW (As := [.ref a0, .int 0, .int 0]) (rest := []) ⟨hx, hb, hml, hown, hts⟩ hcon (vx_cwSW 3 hts gL_makes_L_reason rfl rfl rfl (by decide +kernel) ⟨Nat.le_of_ble_eq_true rfl, Nat.le_of_ble_eq_true rfl⟩) ⟨PC_.blind, lw_pre (X := []) (Y := []) hF hK hP hD hS hA⟩ rfl rfl hl.1 rfl (lv_room (Nat.le_of_ble_eq_true rfl)) dL_makes_106 ⟨(adc_r1 hM), (adc_s1 hM)⟩) hK hP hD hS hA (fun b_24 H locs hpo hP hD hK hS => ?_)
        have hM : FF9 = (adc ((c_4 + y93_2) + y106_2) ((s_4 + y93_3) + y106_3) (if y106_0 = 4 then (if ((((F_L_at xs1 len1 ((1 : Int32) + x37_3)) ^^^ (x37_3 * 7919)) >>> (10 &&& 31)) &&& 3) = 0 then (K_L_makes_137_1 x37_3 (L_L_makes_37 len1 xs1 k_4) (F_L_pass y106_1 1)) else ((L_L_makes_37 len1 xs1 k_4) (x37_3 + 1) y106_1)) else (K_L_makes_116 len1 xs1 x37_3 (L_L_makes_37 len1 xs1 k_4) (F_L_reason y106_1 0 0)))) := hM.trans (adc_adc _ _ _ _ _)
        obtain ⟨hM9_24, hb9_24, hBL_24, hXI_24⟩ := hpo
        have hM9_24 : b_24.2.2.2 = y106_1 := hM9_24
        have hXI_24 : XI ((Bd + 3600 + 1200 * (x37_3 : Int32).toInt.toNat) + 600) y106_1 := hXI_24
        have hP : va_P D vwCl ([] ++ BWW ad b_24) H := hP
        have hD : va_D A ([] ++ BWW ad b_24) := hD
        have hK : va_K D vwCl ([] ++ BWT b_24) s := hK
        refine W.eq (g2 := F0 m 109 ls [.int y106_0]) rfl ?_
        refine lv_iconst (v := 4) hx hb dL_makes_109 (by decide) ?_
        refine lv_icmp_eq (tgt := 125) hx hb dL_makes_110 (by decide) (fun c_25 => ?_) (fun c_25 => ?_)
        · rw [if_pos c_25] at hM
          refine lv_iload hx hb dL_makes_125 (lv_at hl 3 rfl) ?_
          refine lv_bipush (v := 10) hx hb dL_makes_127 (by decide) ?_
          refine lv_ishr hx hb dL_makes_129 ?_
          refine lv_iconst (v := 3) hx hb dL_makes_130 (by decide) ?_
          refine lv_iand hx hb dL_makes_131 ?_
          refine lv_if_ne (tgt := 145) hx hb dL_makes_132 (by decide) (fun c_26 => ?_) (fun c_26 => ?_)
          · rw [if_neg c_26] at hM
            refine lv_iinc (v := (x37_3 + 1)) (lv' := [(3, .int (x37_3 + 1)), (7, .int y93_0), (6, .int (F_L_some (((F_L_at xs1 len1 ((1 : Int32) + x37_3)) ^^^ (x37_3 * 7919)) >>> (3 &&& 31)) ((3 : Int32) + (F_L_some (F_L_at xs1 len1 0) 4)))), (5, .int (F_L_some ((F_L_at xs1 len1 ((1 : Int32) + x37_3)) ^^^ (x37_3 * 7919)) ((3 : Int32) + (F_L_some (F_L_at xs1 len1 0) 4)))), (4, .int ((F_L_at xs1 len1 ((1 : Int32) + x37_3)) ^^^ (x37_3 * 7919))), (2, .int ((3 : Int32) + (F_L_some (F_L_at xs1 len1 0) 4))), (0, .ref a0), (1, .ref sb)]) hx hb dL_makes_145 hl (k := 4) rfl rfl (by decide) rfl (fun ls hl => ?_)
            refine lv_goto (tgt := 37) hx hb dL_makes_148 (by decide) ?_
            exact ih_4 ((x37_3 + 1), y106_1) _ _ _ _ _ ⟨b_24, lp_up hk_4 c_5, lp_up0 hz_4 c_5, hM9_24, hb9_24, hBL_24, XI.mono hXI_24 (show ((Bd + 3600 + 1200 * (x37_3 : Int32).toInt.toNat) + 600) ≤ (Bd + 3600 + 1200 * ((x37_3 + 1) : Int32).toInt.toNat) from (by have y0 := f_le c_3; have y1 := f_nle c_5; have y2 := f_nle c_20; have y3 := f_eq c_25; have y4 := f_neq c_26; have z0 := hy0; have z1 := hBd; have z2 := e1_; have z3 := e3_; have z4 := e4_; have z5 := rs_; have z6 := en_; have z7 := hz_2; have z8 := hv_2_0; have z9 := hz_4; have z10 := hv_4_0; have e_0 : (0 : Int32).toInt = 0 := (by decide +kernel); have e_4 : (4 : Int32).toInt = 4 := (by decide +kernel); have e_8 : (8 : Int32).toInt = 8 := (by decide +kernel); have l229 : (4 : Int32).toInt = 4 := (by decide +kernel); have rsm := R_L_some (F_L_at xs1 len1 0) 4 (by omega); have b231 := Int32.toInt_lt (x37_3); have d231 := Int32.le_toInt (x37_3); have l232 : (1 : Int32).toInt = 1 := (by decide +kernel); have q230 := addI (a := x37_3) (b := 1) (by omega) (by omega); omega)), (show ((x37_3 + 1) : Int32).toInt ≤ 8 from (by have y0 := f_le c_3; have y1 := f_nle c_5; have y2 := f_nle c_20; have y3 := f_eq c_25; have y4 := f_neq c_26; have z0 := hy0; have z1 := hBd; have z2 := e1_; have z3 := e3_; have z4 := e4_; have z5 := rs_; have z6 := en_; have z7 := hz_2; have z8 := hv_2_0; have z9 := hz_4; have z10 := hv_4_0; have e_0 : (0 : Int32).toInt = 0 := (by decide +kernel); have e_4 : (4 : Int32).toInt = 4 := (by decide +kernel); have e_8 : (8 : Int32).toInt = 8 := (by decide +kernel); have l225 : (4 : Int32).toInt = 4 := (by decide +kernel); have rsm := R_L_some (F_L_at xs1 len1 0) 4 (by omega); have b227 := Int32.toInt_lt (x37_3); have d227 := Int32.le_toInt (x37_3); have l228 : (1 : Int32).toInt = 1 := (by decide +kernel); have q226 := addI (a := x37_3) (b := 1) (by omega) (by omega); omega)), hK, hP, hD, hS, lv_sub hl [0, 5, 6, 7] rfl, hM⟩
          · rw [if_pos c_26] at hM
            refine lv_aload_n hx hb dL_makes_135 rfl (lv_at hl 6 rfl) ?_
            refine lv_iconst (v := 1) hx hb dL_makes_136 (by decide) ?_
            have hcon := (bl_L_pass l hl0 D ad H.size b_24 hBL_24 a0 hb9_24 y106_1 hM9_24 ((Bd + 3600 + 1200 * (x37_3 : Int32).toInt.toNat) + 600) hXI_24 (show (((Bd + 3600 + 1200 * (x37_3 : Int32).toInt.toNat) + 600) + 600) ≤ 900000 from (by have y0 := f_le c_3; have y1 := f_nle c_5; have y2 := f_nle c_20; have y3 := f_eq c_25; have y4 := f_eq c_26; have z0 := hy0; have z1 := hBd; have z2 := e1_; have z3 := e3_; have z4 := e4_; have z5 := rs_; have z6 := en_; have z7 := hz_2; have z8 := hv_2_0; have z9 := hz_4; have z10 := hv_4_0; have e_0 : (0 : Int32).toInt = 0 := (by decide +kernel); have e_4 : (4 : Int32).toInt = 4 := (by decide +kernel); have e_8 : (8 : Int32).toInt = 8 := (by decide +kernel); have l233 : (4 : Int32).toInt = 4 := (by decide +kernel); have rsm := R_L_some (F_L_at xs1 len1 0) 4 (by omega); omega)) 1)
            generalize hy_27 : (F_L_pass y106_1 1) = y9 at hcon hM
            obtain ⟨y137_0, y137_1, y137_2, y137_3⟩ := y9
            have hM : FF9 = (adc ((c_4 + y93_2) + y106_2) ((s_4 + y93_3) + y106_3) (adc y137_2 y137_3 (if 0 ≤ y137_0 then ((L_L_makes_37 len1 xs1 k_4) (x37_3 + 1) y137_1) else (0, y137_1, 0, 0)))) := hM
            refine kwb_ [] [] (vx_runSW (As := [.ref a0, .int 1]) (rest := []) ⟨hx, hb, hml, hown, hts⟩ hcon (vx_cwSW 2 hts gL_makes_L_pass rfl rfl rfl (by decide +kernel) ⟨Nat.le_of_ble_eq_true rfl, Nat.le_of_ble_eq_true rfl⟩) ⟨PC_.blind, lw_pre (X := []) (Y := []) hF hK hP hD hS hA⟩ rfl rfl hl.1 rfl (lv_room (Nat.le_of_ble_eq_true rfl)) dL_makes_137 ⟨(adc_r1 hM), (adc_s1 hM)⟩) hK hP hD hS hA (fun b_27 H locs hpo hP hD hK hS => ?_)
            have hM : FF9 = (adc (((c_4 + y93_2) + y106_2) + y137_2) (((s_4 + y93_3) + y106_3) + y137_3) (if 0 ≤ y137_0 then ((L_L_makes_37 len1 xs1 k_4) (x37_3 + 1) y137_1) else (0, y137_1, 0, 0))) := hM.trans (adc_adc _ _ _ _ _)
            obtain ⟨hM9_27, hb9_27, hBL_27, hXI_27⟩ := hpo
            have hM9_27 : b_27.2.2.2 = y137_1 := hM9_27
            have hXI_27 : XI (((Bd + 3600 + 1200 * (x37_3 : Int32).toInt.toNat) + 600) + 600) y137_1 := hXI_27
            have hP : va_P D vwCl ([] ++ BWW ad b_27) H := hP
            have hD : va_D A ([] ++ BWW ad b_27) := hD
            have hK : va_K D vwCl ([] ++ BWT b_27) s := hK
            refine W.eq (g2 := F0 m 140 ls [.int y137_0]) rfl ?_
            refine lv_if_ge (tgt := 145) hx hb dL_makes_140 (by decide) (fun c_28 => ?_) (fun c_28 => ?_)
            · rw [if_pos c_28] at hM
              refine lv_iinc (v := (x37_3 + 1)) (lv' := [(3, .int (x37_3 + 1)), (7, .int y93_0), (6, .int (F_L_some (((F_L_at xs1 len1 ((1 : Int32) + x37_3)) ^^^ (x37_3 * 7919)) >>> (3 &&& 31)) ((3 : Int32) + (F_L_some (F_L_at xs1 len1 0) 4)))), (5, .int (F_L_some ((F_L_at xs1 len1 ((1 : Int32) + x37_3)) ^^^ (x37_3 * 7919)) ((3 : Int32) + (F_L_some (F_L_at xs1 len1 0) 4)))), (4, .int ((F_L_at xs1 len1 ((1 : Int32) + x37_3)) ^^^ (x37_3 * 7919))), (2, .int ((3 : Int32) + (F_L_some (F_L_at xs1 len1 0) 4))), (0, .ref a0), (1, .ref sb)]) hx hb dL_makes_145 hl (k := 4) rfl rfl (by decide) rfl (fun ls hl => ?_)
              refine lv_goto (tgt := 37) hx hb dL_makes_148 (by decide) ?_
              exact ih_4 ((x37_3 + 1), y137_1) _ _ _ _ _ ⟨b_27, lp_up hk_4 c_5, lp_up0 hz_4 c_5, hM9_27, hb9_27, hBL_27, XI.mono hXI_27 (show (((Bd + 3600 + 1200 * (x37_3 : Int32).toInt.toNat) + 600) + 600) ≤ (Bd + 3600 + 1200 * ((x37_3 + 1) : Int32).toInt.toNat) from (by have y0 := f_le c_3; have y1 := f_nle c_5; have y2 := f_nle c_20; have y3 := f_eq c_25; have y4 := f_eq c_26; have y5 := f_le c_28; have z0 := hy0; have z1 := hBd; have z2 := e1_; have z3 := e3_; have z4 := e4_; have z5 := rs_; have z6 := en_; have z7 := hz_2; have z8 := hv_2_0; have z9 := hz_4; have z10 := hv_4_0; have e_0 : (0 : Int32).toInt = 0 := (by decide +kernel); have e_4 : (4 : Int32).toInt = 4 := (by decide +kernel); have e_8 : (8 : Int32).toInt = 8 := (by decide +kernel); have l238 : (4 : Int32).toInt = 4 := (by decide +kernel); have rsm := R_L_some (F_L_at xs1 len1 0) 4 (by omega); have b240 := Int32.toInt_lt (x37_3); have d240 := Int32.le_toInt (x37_3); have l241 : (1 : Int32).toInt = 1 := (by decide +kernel); have q239 := addI (a := x37_3) (b := 1) (by omega) (by omega); omega)), (show ((x37_3 + 1) : Int32).toInt ≤ 8 from (by have y0 := f_le c_3; have y1 := f_nle c_5; have y2 := f_nle c_20; have y3 := f_eq c_25; have y4 := f_eq c_26; have y5 := f_le c_28; have z0 := hy0; have z1 := hBd; have z2 := e1_; have z3 := e3_; have z4 := e4_; have z5 := rs_; have z6 := en_; have z7 := hz_2; have z8 := hv_2_0; have z9 := hz_4; have z10 := hv_4_0; have e_0 : (0 : Int32).toInt = 0 := (by decide +kernel); have e_4 : (4 : Int32).toInt = 4 := (by decide +kernel); have e_8 : (8 : Int32).toInt = 8 := (by decide +kernel); have l234 : (4 : Int32).toInt = 4 := (by decide +kernel); have rsm := R_L_some (F_L_at xs1 len1 0) 4 (by omega); have b236 := Int32.toInt_lt (x37_3); have d236 := Int32.le_toInt (x37_3); have l237 : (1 : Int32).toInt = 1 := (by decide +kernel); have q235 := addI (a := x37_3) (b := 1) (by omega) (by omega); omega)), hK, hP, hD, hS, lv_sub hl [0, 5, 6, 7] rfl, hM⟩
            · rw [if_neg c_28] at hM
              refine lv_iconst (v := 0) hx hb dL_makes_143 (by decide) ?_
              refine W.widen (k := (FF9).2.2.1) (n := (FF9).2.2.2) (Nat.le_of_eq (by rw [hM]; first | done | rfl)) (Nat.le_of_eq (by rw [hM]; first | done | rfl)) ?_
              exact W.zret (v := 0) hx hb hr rfl (lw_ret (X := []) (Y := []) b_27 hP hD hK hS (by rw [hM]; first | done | rfl) ⟨(by rw [hM]; exact hM9_27), hb9_27, hBL_27, (by rw [hM]; exact XI.mono hXI_27 (show (((Bd + 3600 + 1200 * (x37_3 : Int32).toInt.toNat) + 600) + 600) ≤ Bd + 16000 from (by have y0 := f_le c_3; have y1 := f_nle c_5; have y2 := f_nle c_20; have y3 := f_eq c_25; have y4 := f_eq c_26; have y5 := f_nle c_28; have z0 := hy0; have z1 := hBd; have z2 := e1_; have z3 := e3_; have z4 := e4_; have z5 := rs_; have z6 := en_; have z7 := hz_2; have z8 := hv_2_0; have z9 := hz_4; have z10 := hv_4_0; have e_0 : (0 : Int32).toInt = 0 := (by decide +kernel); have e_4 : (4 : Int32).toInt = 4 := (by decide +kernel); have e_8 : (8 : Int32).toInt = 8 := (by decide +kernel); have l242 : (4 : Int32).toInt = 4 := (by decide +kernel); have rsm := R_L_some (F_L_at xs1 len1 0) 4 (by omega); omega)))⟩) hS.2.2 dL_makes_144
        · rw [if_neg c_25] at hM
          refine lv_aload_n hx hb dL_makes_113 rfl (lv_at hl 6 rfl) ?_
          refine lv_iconst (v := 0) hx hb dL_makes_114 (by decide) ?_
          refine lv_iconst (v := 0) hx hb dL_makes_115 (by decide) ?_
          have hcon := (bl_L_reason l hl0 D ad H.size b_24 hBL_24 a0 hb9_24 y106_1 hM9_24 ((Bd + 3600 + 1200 * (x37_3 : Int32).toInt.toNat) + 600) hXI_24 (show ((Bd + 3600 + 1200 * (x37_3 : Int32).toInt.toNat) + 600) ≤ 900000 from (by have y0 := f_le c_3; have y1 := f_nle c_5; have y2 := f_nle c_20; have y3 := f_neq c_25; have z0 := hy0; have z1 := hBd; have z2 := e1_; have z3 := e3_; have z4 := e4_; have z5 := rs_; have z6 := en_; have z7 := hz_2; have z8 := hv_2_0; have z9 := hz_4; have z10 := hv_4_0; have e_0 : (0 : Int32).toInt = 0 := (by decide +kernel); have e_4 : (4 : Int32).toInt = 4 := (by decide +kernel); have e_8 : (8 : Int32).toInt = 8 := (by decide +kernel); have l243 : (4 : Int32).toInt = 4 := (by decide +kernel); have rsm := R_L_some (F_L_at xs1 len1 0) 4 (by omega); omega)) 0 0)
          generalize hy_29 : (F_L_reason y106_1 0 0) = y9 at hcon hM
          obtain ⟨y116_0, y116_1, y116_2, y116_3⟩ := y9
          have hM : FF9 = (adc ((c_4 + y93_2) + y106_2) ((s_4 + y93_3) + y106_3) (adc y116_2 y116_3 (if y116_0 = 5 then (if ((((F_L_at xs1 len1 ((1 : Int32) + x37_3)) ^^^ (x37_3 * 7919)) >>> (10 &&& 31)) &&& 3) = 0 then (K_L_makes_137_2 x37_3 (L_L_makes_37 len1 xs1 k_4) (F_L_pass y116_1 1)) else ((L_L_makes_37 len1 xs1 k_4) (x37_3 + 1) y116_1)) else (0, y116_1, 0, 0)))) := hM
          refine kwb_ [] [] (vx_runSW (As := [.ref a0, .int 0, .int 0]) (rest := []) ⟨hx, hb, hml, hown, hts⟩ hcon (vx_cwSW 3 hts gL_makes_L_reason rfl rfl rfl (by decide +kernel) ⟨Nat.le_of_ble_eq_true rfl, Nat.le_of_ble_eq_true rfl⟩) ⟨PC_.blind, lw_pre (X := []) (Y := []) hF hK hP hD hS hA⟩ rfl rfl hl.1 rfl (lv_room (Nat.le_of_ble_eq_true rfl)) dL_makes_116 ⟨(adc_r1 hM), (adc_s1 hM)⟩) hK hP hD hS hA (fun b_29 H locs hpo hP hD hK hS => ?_)
          have hM : FF9 = (adc (((c_4 + y93_2) + y106_2) + y116_2) (((s_4 + y93_3) + y106_3) + y116_3) (if y116_0 = 5 then (if ((((F_L_at xs1 len1 ((1 : Int32) + x37_3)) ^^^ (x37_3 * 7919)) >>> (10 &&& 31)) &&& 3) = 0 then (K_L_makes_137_2 x37_3 (L_L_makes_37 len1 xs1 k_4) (F_L_pass y116_1 1)) else ((L_L_makes_37 len1 xs1 k_4) (x37_3 + 1) y116_1)) else (0, y116_1, 0, 0))) := hM.trans (adc_adc _ _ _ _ _)
          obtain ⟨hM9_29, hb9_29, hBL_29, hXI_29⟩ := hpo
          have hM9_29 : b_29.2.2.2 = y116_1 := hM9_29
          have hXI_29 : XI ((Bd + 3600 + 1200 * (x37_3 : Int32).toInt.toNat) + 600) y116_1 := hXI_29
          have hP : va_P D vwCl ([] ++ BWW ad b_29) H := hP
          have hD : va_D A ([] ++ BWW ad b_29) := hD
          have hK : va_K D vwCl ([] ++ BWT b_29) s := hK
          refine W.eq (g2 := F0 m 119 ls [.int y116_0]) rfl ?_
          refine lv_iconst (v := 5) hx hb dL_makes_119 (by decide) ?_
          refine lv_icmp_eq (tgt := 125) hx hb dL_makes_120 (by decide) (fun c_30 => ?_) (fun c_30 => ?_)
          · rw [if_pos c_30] at hM
            refine lv_iload hx hb dL_makes_125 (lv_at hl 3 rfl) ?_
            refine lv_bipush (v := 10) hx hb dL_makes_127 (by decide) ?_
            refine lv_ishr hx hb dL_makes_129 ?_
            refine lv_iconst (v := 3) hx hb dL_makes_130 (by decide) ?_
            refine lv_iand hx hb dL_makes_131 ?_
            refine lv_if_ne (tgt := 145) hx hb dL_makes_132 (by decide) (fun c_31 => ?_) (fun c_31 => ?_)
            · rw [if_neg c_31] at hM
              refine lv_iinc (v := (x37_3 + 1)) (lv' := [(3, .int (x37_3 + 1)), (7, .int y93_0), (6, .int (F_L_some (((F_L_at xs1 len1 ((1 : Int32) + x37_3)) ^^^ (x37_3 * 7919)) >>> (3 &&& 31)) ((3 : Int32) + (F_L_some (F_L_at xs1 len1 0) 4)))), (5, .int (F_L_some ((F_L_at xs1 len1 ((1 : Int32) + x37_3)) ^^^ (x37_3 * 7919)) ((3 : Int32) + (F_L_some (F_L_at xs1 len1 0) 4)))), (4, .int ((F_L_at xs1 len1 ((1 : Int32) + x37_3)) ^^^ (x37_3 * 7919))), (2, .int ((3 : Int32) + (F_L_some (F_L_at xs1 len1 0) 4))), (0, .ref a0), (1, .ref sb)]) hx hb dL_makes_145 hl (k := 4) rfl rfl (by decide) rfl (fun ls hl => ?_)
              refine lv_goto (tgt := 37) hx hb dL_makes_148 (by decide) ?_
              exact ih_4 ((x37_3 + 1), y116_1) _ _ _ _ _ ⟨b_29, lp_up hk_4 c_5, lp_up0 hz_4 c_5, hM9_29, hb9_29, hBL_29, XI.mono hXI_29 (show ((Bd + 3600 + 1200 * (x37_3 : Int32).toInt.toNat) + 600) ≤ (Bd + 3600 + 1200 * ((x37_3 + 1) : Int32).toInt.toNat) from (by have y0 := f_le c_3; have y1 := f_nle c_5; have y2 := f_nle c_20; have y3 := f_neq c_25; have y4 := f_eq c_30; have y5 := f_neq c_31; have z0 := hy0; have z1 := hBd; have z2 := e1_; have z3 := e3_; have z4 := e4_; have z5 := rs_; have z6 := en_; have z7 := hz_2; have z8 := hv_2_0; have z9 := hz_4; have z10 := hv_4_0; have e_0 : (0 : Int32).toInt = 0 := (by decide +kernel); have e_4 : (4 : Int32).toInt = 4 := (by decide +kernel); have e_5 : (5 : Int32).toInt = 5 := (by decide +kernel); have e_8 : (8 : Int32).toInt = 8 := (by decide +kernel); have l248 : (4 : Int32).toInt = 4 := (by decide +kernel); have rsm := R_L_some (F_L_at xs1 len1 0) 4 (by omega); have b250 := Int32.toInt_lt (x37_3); have d250 := Int32.le_toInt (x37_3); have l251 : (1 : Int32).toInt = 1 := (by decide +kernel); have q249 := addI (a := x37_3) (b := 1) (by omega) (by omega); omega)), (show ((x37_3 + 1) : Int32).toInt ≤ 8 from (by have y0 := f_le c_3; have y1 := f_nle c_5; have y2 := f_nle c_20; have y3 := f_neq c_25; have y4 := f_eq c_30; have y5 := f_neq c_31; have z0 := hy0; have z1 := hBd; have z2 := e1_; have z3 := e3_; have z4 := e4_; have z5 := rs_; have z6 := en_; have z7 := hz_2; have z8 := hv_2_0; have z9 := hz_4; have z10 := hv_4_0; have e_0 : (0 : Int32).toInt = 0 := (by decide +kernel); have e_4 : (4 : Int32).toInt = 4 := (by decide +kernel); have e_5 : (5 : Int32).toInt = 5 := (by decide +kernel); have e_8 : (8 : Int32).toInt = 8 := (by decide +kernel); have l244 : (4 : Int32).toInt = 4 := (by decide +kernel); have rsm := R_L_some (F_L_at xs1 len1 0) 4 (by omega); have b246 := Int32.toInt_lt (x37_3); have d246 := Int32.le_toInt (x37_3); have l247 : (1 : Int32).toInt = 1 := (by decide +kernel); have q245 := addI (a := x37_3) (b := 1) (by omega) (by omega); omega)), hK, hP, hD, hS, lv_sub hl [0, 5, 6, 7] rfl, hM⟩
            · rw [if_pos c_31] at hM
              refine lv_aload_n hx hb dL_makes_135 rfl (lv_at hl 6 rfl) ?_
              refine lv_iconst (v := 1) hx hb dL_makes_136 (by decide) ?_
              have hcon := (bl_L_pass l hl0 D ad H.size b_29 hBL_29 a0 hb9_29 y116_1 hM9_29 ((Bd + 3600 + 1200 * (x37_3 : Int32).toInt.toNat) + 600) hXI_29 (show (((Bd + 3600 + 1200 * (x37_3 : Int32).toInt.toNat) + 600) + 600) ≤ 900000 from (by have y0 := f_le c_3; have y1 := f_nle c_5; have y2 := f_nle c_20; have y3 := f_neq c_25; have y4 := f_eq c_30; have y5 := f_eq c_31; have z0 := hy0; have z1 := hBd; have z2 := e1_; have z3 := e3_; have z4 := e4_; have z5 := rs_; have z6 := en_; have z7 := hz_2; have z8 := hv_2_0; have z9 := hz_4; have z10 := hv_4_0; have e_0 : (0 : Int32).toInt = 0 := (by decide +kernel); have e_4 : (4 : Int32).toInt = 4 := (by decide +kernel); have e_5 : (5 : Int32).toInt = 5 := (by decide +kernel); have e_8 : (8 : Int32).toInt = 8 := (by decide +kernel); have l252 : (4 : Int32).toInt = 4 := (by decide +kernel); have rsm := R_L_some (F_L_at xs1 len1 0) 4 (by omega); omega)) 1)
              generalize hy_32 : (F_L_pass y116_1 1) = y9 at hcon hM
              obtain ⟨y137_0, y137_1, y137_2, y137_3⟩ := y9
              have hM : FF9 = (adc (((c_4 + y93_2) + y106_2) + y116_2) (((s_4 + y93_3) + y106_3) + y116_3) (adc y137_2 y137_3 (if 0 ≤ y137_0 then ((L_L_makes_37 len1 xs1 k_4) (x37_3 + 1) y137_1) else (0, y137_1, 0, 0)))) := hM
              refine kwb_ [] [] (vx_runSW (As := [.ref a0, .int 1]) (rest := []) ⟨hx, hb, hml, hown, hts⟩ hcon (vx_cwSW 2 hts gL_makes_L_pass rfl rfl rfl (by decide +kernel) ⟨Nat.le_of_ble_eq_true rfl, Nat.le_of_ble_eq_true rfl⟩) ⟨PC_.blind, lw_pre (X := []) (Y := []) hF hK hP hD hS hA⟩ rfl rfl hl.1 rfl (lv_room (Nat.le_of_ble_eq_true rfl)) dL_makes_137 ⟨(adc_r1 hM), (adc_s1 hM)⟩) hK hP hD hS hA (fun b_32 H locs hpo hP hD hK hS => ?_)
              have hM : FF9 = (adc ((((c_4 + y93_2) + y106_2) + y116_2) + y137_2) ((((s_4 + y93_3) + y106_3) + y116_3) + y137_3) (if 0 ≤ y137_0 then ((L_L_makes_37 len1 xs1 k_4) (x37_3 + 1) y137_1) else (0, y137_1, 0, 0))) := hM.trans (adc_adc _ _ _ _ _)
              obtain ⟨hM9_32, hb9_32, hBL_32, hXI_32⟩ := hpo
              have hM9_32 : b_32.2.2.2 = y137_1 := hM9_32
              have hXI_32 : XI (((Bd + 3600 + 1200 * (x37_3 : Int32).toInt.toNat) + 600) + 600) y137_1 := hXI_32
              have hP : va_P D vwCl ([] ++ BWW ad b_32) H := hP
              have hD : va_D A ([] ++ BWW ad b_32) := hD
              have hK : va_K D vwCl ([] ++ BWT b_32) s := hK
              refine W.eq (g2 := F0 m 140 ls [.int y137_0]) rfl ?_
              refine lv_if_ge (tgt := 145) hx hb dL_makes_140 (by decide) (fun c_33 => ?_) (fun c_33 => ?_)
              · rw [if_pos c_33] at hM
                refine lv_iinc (v := (x37_3 + 1)) (lv' := [(3, .int (x37_3 + 1)), (7, .int y93_0), (6, .int (F_L_some (((F_L_at xs1 len1 ((1 : Int32) + x37_3)) ^^^ (x37_3 * 7919)) >>> (3 &&& 31)) ((3 : Int32) + (F_L_some (F_L_at xs1 len1 0) 4)))), (5, .int (F_L_some ((F_L_at xs1 len1 ((1 : Int32) + x37_3)) ^^^ (x37_3 * 7919)) ((3 : Int32) + (F_L_some (F_L_at xs1 len1 0) 4)))), (4, .int ((F_L_at xs1 len1 ((1 : Int32) + x37_3)) ^^^ (x37_3 * 7919))), (2, .int ((3 : Int32) + (F_L_some (F_L_at xs1 len1 0) 4))), (0, .ref a0), (1, .ref sb)]) hx hb dL_makes_145 hl (k := 4) rfl rfl (by decide) rfl (fun ls hl => ?_)
                refine lv_goto (tgt := 37) hx hb dL_makes_148 (by decide) ?_
                exact ih_4 ((x37_3 + 1), y137_1) _ _ _ _ _ ⟨b_32, lp_up hk_4 c_5, lp_up0 hz_4 c_5, hM9_32, hb9_32, hBL_32, XI.mono hXI_32 (show (((Bd + 3600 + 1200 * (x37_3 : Int32).toInt.toNat) + 600) + 600) ≤ (Bd + 3600 + 1200 * ((x37_3 + 1) : Int32).toInt.toNat) from (by have y0 := f_le c_3; have y1 := f_nle c_5; have y2 := f_nle c_20; have y3 := f_neq c_25; have y4 := f_eq c_30; have y5 := f_eq c_31; have y6 := f_le c_33; have z0 := hy0; have z1 := hBd; have z2 := e1_; have z3 := e3_; have z4 := e4_; have z5 := rs_; have z6 := en_; have z7 := hz_2; have z8 := hv_2_0; have z9 := hz_4; have z10 := hv_4_0; have e_0 : (0 : Int32).toInt = 0 := (by decide +kernel); have e_4 : (4 : Int32).toInt = 4 := (by decide +kernel); have e_5 : (5 : Int32).toInt = 5 := (by decide +kernel); have e_8 : (8 : Int32).toInt = 8 := (by decide +kernel); have l257 : (4 : Int32).toInt = 4 := (by decide +kernel); have rsm := R_L_some (F_L_at xs1 len1 0) 4 (by omega); have b259 := Int32.toInt_lt (x37_3); have d259 := Int32.le_toInt (x37_3); have l260 : (1 : Int32).toInt = 1 := (by decide +kernel); have q258 := addI (a := x37_3) (b := 1) (by omega) (by omega); omega)), (show ((x37_3 + 1) : Int32).toInt ≤ 8 from (by have y0 := f_le c_3; have y1 := f_nle c_5; have y2 := f_nle c_20; have y3 := f_neq c_25; have y4 := f_eq c_30; have y5 := f_eq c_31; have y6 := f_le c_33; have z0 := hy0; have z1 := hBd; have z2 := e1_; have z3 := e3_; have z4 := e4_; have z5 := rs_; have z6 := en_; have z7 := hz_2; have z8 := hv_2_0; have z9 := hz_4; have z10 := hv_4_0; have e_0 : (0 : Int32).toInt = 0 := (by decide +kernel); have e_4 : (4 : Int32).toInt = 4 := (by decide +kernel); have e_5 : (5 : Int32).toInt = 5 := (by decide +kernel); have e_8 : (8 : Int32).toInt = 8 := (by decide +kernel); have l253 : (4 : Int32).toInt = 4 := (by decide +kernel); have rsm := R_L_some (F_L_at xs1 len1 0) 4 (by omega); have b255 := Int32.toInt_lt (x37_3); have d255 := Int32.le_toInt (x37_3); have l256 : (1 : Int32).toInt = 1 := (by decide +kernel); have q254 := addI (a := x37_3) (b := 1) (by omega) (by omega); omega)), hK, hP, hD, hS, lv_sub hl [0, 5, 6, 7] rfl, hM⟩
              · rw [if_neg c_33] at hM
                refine lv_iconst (v := 0) hx hb dL_makes_143 (by decide) ?_
                refine W.widen (k := (FF9).2.2.1) (n := (FF9).2.2.2) (Nat.le_of_eq (by rw [hM]; first | done | rfl)) (Nat.le_of_eq (by rw [hM]; first | done | rfl)) ?_
                exact W.zret (v := 0) hx hb hr rfl (lw_ret (X := []) (Y := []) b_32 hP hD hK hS (by rw [hM]; first | done | rfl) ⟨(by rw [hM]; exact hM9_32), hb9_32, hBL_32, (by rw [hM]; exact XI.mono hXI_32 (show (((Bd + 3600 + 1200 * (x37_3 : Int32).toInt.toNat) + 600) + 600) ≤ Bd + 16000 from (by have y0 := f_le c_3; have y1 := f_nle c_5; have y2 := f_nle c_20; have y3 := f_neq c_25; have y4 := f_eq c_30; have y5 := f_eq c_31; have y6 := f_nle c_33; have z0 := hy0; have z1 := hBd; have z2 := e1_; have z3 := e3_; have z4 := e4_; have z5 := rs_; have z6 := en_; have z7 := hz_2; have z8 := hv_2_0; have z9 := hz_4; have z10 := hv_4_0; have e_0 : (0 : Int32).toInt = 0 := (by decide +kernel); have e_4 : (4 : Int32).toInt = 4 := (by decide +kernel); have e_5 : (5 : Int32).toInt = 5 := (by decide +kernel); have e_8 : (8 : Int32).toInt = 8 := (by decide +kernel); have l261 : (4 : Int32).toInt = 4 := (by decide +kernel); have rsm := R_L_some (F_L_at xs1 len1 0) 4 (by omega); omega)))⟩) hS.2.2 dL_makes_144
          · rw [if_neg c_30] at hM
            refine lv_iconst (v := 0) hx hb dL_makes_123 (by decide) ?_
            refine W.widen (k := (FF9).2.2.1) (n := (FF9).2.2.2) (Nat.le_of_eq (by rw [hM]; first | done | rfl)) (Nat.le_of_eq (by rw [hM]; first | done | rfl)) ?_
            exact W.zret (v := 0) hx hb hr rfl (lw_ret (X := []) (Y := []) b_29 hP hD hK hS (by rw [hM]; first | done | rfl) ⟨(by rw [hM]; exact hM9_29), hb9_29, hBL_29, (by rw [hM]; exact XI.mono hXI_29 (show ((Bd + 3600 + 1200 * (x37_3 : Int32).toInt.toNat) + 600) ≤ Bd + 16000 from (by have y0 := f_le c_3; have y1 := f_nle c_5; have y2 := f_nle c_20; have y3 := f_neq c_25; have y4 := f_neq c_30; have z0 := hy0; have z1 := hBd; have z2 := e1_; have z3 := e3_; have z4 := e4_; have z5 := rs_; have z6 := en_; have z7 := hz_2; have z8 := hv_2_0; have z9 := hz_4; have z10 := hv_4_0; have e_0 : (0 : Int32).toInt = 0 := (by decide +kernel); have e_4 : (4 : Int32).toInt = 4 := (by decide +kernel); have e_5 : (5 : Int32).toInt = 5 := (by decide +kernel); have e_8 : (8 : Int32).toInt = 8 := (by decide +kernel); have l262 : (4 : Int32).toInt = 4 := (by decide +kernel); have rsm := R_L_some (F_L_at xs1 len1 0) 4 (by omega); omega)))⟩) hS.2.2 dL_makes_124
  · rw [if_neg c_3] at hM
    refine lv_aload_n hx hb dL_makes_19 rfl (lv_at hl 2 rfl) ?_
    have hcon := (bl_L_come l hl0 D ad H.size b14 hBL_14 a0 hb9_14 x14_t hM9_14 (Bd + 600 * (x14_3 : Int32).toInt.toNat) hXI_14 (show ((Bd + 600 * (x14_3 : Int32).toInt.toNat) + 600) ≤ 900000 from (by have y0 := f_nle c_3; have z0 := hy0; have z1 := hBd; have z2 := e1_; have z3 := e3_; have z4 := e4_; have z5 := rs_; have z6 := en_; have z7 := hz_2; have z8 := hv_2_0; have l263 : (4 : Int32).toInt = 4 := (by decide +kernel); have rsm := R_L_some (F_L_at xs1 len1 0) 4 (by omega); omega)))
    generalize hy_34 : (F_L_come x14_t) = y9 at hcon hM
    obtain ⟨y20_0, y20_1, y20_2, y20_3⟩ := y9
    have hM : FF9 = (adc c_2 s_2 (adc y20_2 y20_3 (if y20_0 = x14_3 then ((L_L_makes_14 len1 xs1 k_2) (x14_3 + 1) y20_1) else (0, y20_1, 0, 0)))) := hM
    refine kwb_ [] [] (vx_runSW (As := [.ref a0]) (rest := []) ⟨hx, hb, hml, hown, hts⟩ hcon (vx_cwSW 1 hts gL_makes_L_come rfl rfl rfl (by decide +kernel) ⟨Nat.le_of_ble_eq_true rfl, Nat.le_of_ble_eq_true rfl⟩) ⟨PC_.blind, lw_pre (X := []) (Y := []) hF hK hP hD hS hA⟩ rfl rfl hl.1 rfl (lv_room (Nat.le_of_ble_eq_true rfl)) dL_makes_20 ⟨(adc_r1 hM), (adc_s1 hM)⟩) hK hP hD hS hA (fun b_34 H locs hpo hP hD hK hS => ?_)
    have hM : FF9 = (adc (c_2 + y20_2) (s_2 + y20_3) (if y20_0 = x14_3 then ((L_L_makes_14 len1 xs1 k_2) (x14_3 + 1) y20_1) else (0, y20_1, 0, 0))) := hM.trans (adc_adc _ _ _ _ _)
    obtain ⟨hM9_34, hb9_34, hBL_34, hXI_34⟩ := hpo
    have hM9_34 : b_34.2.2.2 = y20_1 := hM9_34
    have hXI_34 : XI ((Bd + 600 * (x14_3 : Int32).toInt.toNat) + 600) y20_1 := hXI_34
    have hP : va_P D vwCl ([] ++ BWW ad b_34) H := hP
    have hD : va_D A ([] ++ BWW ad b_34) := hD
    have hK : va_K D vwCl ([] ++ BWT b_34) s := hK
    refine W.eq (g2 := F0 m 23 ls [.int y20_0]) rfl ?_
    refine lv_iload_n hx hb dL_makes_23 rfl (lv_at hl 0 rfl) ?_
    refine lv_icmp_eq (tgt := 29) hx hb dL_makes_24 (by decide) (fun c_35 => ?_) (fun c_35 => ?_)
    · rw [if_pos c_35] at hM
      refine lv_iinc (v := (x14_3 + 1)) (lv' := [(3, .int (x14_3 + 1)), (2, .int ((3 : Int32) + (F_L_some (F_L_at xs1 len1 0) 4))), (0, .ref a0), (1, .ref sb)]) hx hb dL_makes_29 hl (k := 0) rfl rfl (by decide) rfl (fun ls hl => ?_)
      refine lv_goto (tgt := 14) hx hb dL_makes_32 (by decide) ?_
      exact ih_2 ((x14_3 + 1), y20_1) _ _ _ _ _ ⟨b_34, lp_up hk_2 c_3, lp_up0 hz_2 c_3, hM9_34, hb9_34, hBL_34, XI.mono hXI_34 (show ((Bd + 600 * (x14_3 : Int32).toInt.toNat) + 600) ≤ (Bd + 600 * ((x14_3 + 1) : Int32).toInt.toNat) from (by have y0 := f_nle c_3; have y1 := f_eq c_35; have z0 := hy0; have z1 := hBd; have z2 := e1_; have z3 := e3_; have z4 := e4_; have z5 := rs_; have z6 := en_; have z7 := hz_2; have z8 := hv_2_0; have l268 : (4 : Int32).toInt = 4 := (by decide +kernel); have rsm := R_L_some (F_L_at xs1 len1 0) 4 (by omega); have b270 := Int32.toInt_lt (x14_3); have d270 := Int32.le_toInt (x14_3); have l271 : (1 : Int32).toInt = 1 := (by decide +kernel); have q269 := addI (a := x14_3) (b := 1) (by omega) (by omega); omega)), (show ((x14_3 + 1) : Int32).toInt ≤ 6 from (by have y0 := f_nle c_3; have y1 := f_eq c_35; have z0 := hy0; have z1 := hBd; have z2 := e1_; have z3 := e3_; have z4 := e4_; have z5 := rs_; have z6 := en_; have z7 := hz_2; have z8 := hv_2_0; have l264 : (4 : Int32).toInt = 4 := (by decide +kernel); have rsm := R_L_some (F_L_at xs1 len1 0) 4 (by omega); have b266 := Int32.toInt_lt (x14_3); have d266 := Int32.le_toInt (x14_3); have l267 : (1 : Int32).toInt = 1 := (by decide +kernel); have q265 := addI (a := x14_3) (b := 1) (by omega) (by omega); omega)), hK, hP, hD, hS, lv_sub hl [0, 1, 2, 3] rfl, hM⟩
    · rw [if_neg c_35] at hM
      refine lv_iconst (v := 0) hx hb dL_makes_27 (by decide) ?_
      refine W.widen (k := (FF9).2.2.1) (n := (FF9).2.2.2) (Nat.le_of_eq (by rw [hM]; first | done | rfl)) (Nat.le_of_eq (by rw [hM]; first | done | rfl)) ?_
      exact W.zret (v := 0) hx hb hr rfl (lw_ret (X := []) (Y := []) b_34 hP hD hK hS (by rw [hM]; first | done | rfl) ⟨(by rw [hM]; exact hM9_34), hb9_34, hBL_34, (by rw [hM]; exact XI.mono hXI_34 (show ((Bd + 600 * (x14_3 : Int32).toInt.toNat) + 600) ≤ Bd + 16000 from (by have y0 := f_nle c_3; have z0 := hy0; have z1 := hBd; have z2 := e1_; have z3 := e3_; have z4 := e4_; have z5 := rs_; have z6 := en_; have z7 := hz_2; have z8 := hv_2_0; have l272 : (4 : Int32).toInt = 4 := (by decide +kernel); have rsm := R_L_some (F_L_at xs1 len1 0) 4 (by omega); omega)))⟩) hS.2.2 dL_makes_28
