def K_X3_findFault_13 (ln : Int32) (x6_1 : Int32) (x6_h_T_2 : Int32) (x6_h_T_3 : Nat) (x6_h_nu : Nat → Int32) (rc_6 : Int32 → Int32 → Nat → (Nat → Int32) → (Option (Int32 × (Nat → Int32) × Int32 × Nat) × Int32 × Int32 × Nat × (Nat → Int32))) : (Int32 × (Nat → Int32) × Int32 × Nat) → (Option (Int32 × (Nat → Int32) × Int32 × Nat) × Int32 × Int32 × Nat × (Nat → Int32))
  | (y13_0, y13_1, y13_2, y13_3) => (if y13_0 = 0 then ((some (y13_2, y13_1, y13_2, y13_3)), x6_1, x6_h_T_2, x6_h_T_3, x6_h_nu) else (if y13_2 < ln then (rc_6 (x6_1 + 1) (F_X3_skipSign y13_2) y13_3 y13_1) else ((some ((-1), y13_1, y13_2, y13_3)), x6_1, x6_h_T_2, x6_h_T_3, x6_h_nu)))
def B_X3_findFault_6 (sg : Nat → Int32) (ln : Int32) (rc_6 : Int32 → Int32 → Nat → (Nat → Int32) → (Option (Int32 × (Nat → Int32) × Int32 × Nat) × Int32 × Int32 × Nat × (Nat → Int32))) (x6_1 : Int32) (x6_h_T_2 : Int32) (x6_h_T_3 : Nat) (x6_h_nu : Nat → Int32) : Option (Int32 × (Nat → Int32) × Int32 × Nat) × Int32 × Int32 × Nat × (Nat → Int32) := (if 60 ≤ x6_1 then (none, x6_1, x6_h_T_2, x6_h_T_3, x6_h_nu) else (K_X3_findFault_13 ln x6_1 x6_h_T_2 x6_h_T_3 x6_h_nu rc_6 (F_X3_readCommand sg ln x6_h_T_2 x6_h_T_3 x6_h_nu)))
def L_X3_findFault_6 (sg : Nat → Int32) (ln : Int32) : Nat → Int32 → Int32 → Nat → (Nat → Int32) → (Option (Int32 × (Nat → Int32) × Int32 × Nat) × Int32 × Int32 × Nat × (Nat → Int32))
  | 0 => fun x6_1 x6_h_T_2 x6_h_T_3 x6_h_nu => (none, x6_1, x6_h_T_2, x6_h_T_3, x6_h_nu)
  | k + 1 => B_X3_findFault_6 sg ln (L_X3_findFault_6 sg ln k)
def K_X3_findFault_6  : (Option (Int32 × (Nat → Int32) × Int32 × Nat) × Int32 × Int32 × Nat × (Nat → Int32)) → (Int32 × (Nat → Int32) × Int32 × Nat)
  | (some r9, _, _, _, _) => r9
  | (none, x6_1, x6_h_T_2, x6_h_T_3, x6_h_nu) => (x6_h_T_2, x6_h_nu, x6_h_T_2, x6_h_T_3)
def F_X3_findFault (sg : Nat → Int32) (ln : Int32) (ch : Nat) (nu : Nat → Int32) : Int32 × (Nat → Int32) × Int32 × Nat := (K_X3_findFault_6 (L_X3_findFault_6 sg ln (((60 : Int32).toInt - (0 : Int32).toInt).toNat + 1) 0 F_X3_toStart ch nu))
set_option maxHeartbeats 4000000 in
set_option maxRecDepth 100000 in
theorem c_X3_findFault (l : Launch) (hl0 : l.stackTraces = false) (D : va_G) (ad : Nat → Nat) (sz : Nat) (h_sg : Nat) (h_nu : Nat) (h_T : Nat) (k_sg : ClassId) (k_nu : ClassId) (sg : Nat → Int32) (nu : Nat → Int32) (ln : Int32) (pl : Int32) (ch : Nat) (hy0 : 0 ≤ ln.toInt) (hy1 : ln.toInt ≤ 60) : Met l yX3_findFault wsX3_findFault ({ frames := 5, cells := 0, slots := 0, locals := 118 }) (PC_ D ad [(h_sg, .inl (k_sg, 60, .inl sg)), (h_nu, .inl (k_nu, 3, .inl nu)), (h_T, .inr (6, [.ref h_sg, .int ln, .int pl, (enV ad ch), .ref h_nu]))] [(k_sg, .char), (k_nu, .int)] sz [.ref h_T]) (QG_ D (fun q i => some (.int (F_X3_findFault sg ln ch nu).1)) (fun q i => ((F_X3_findFault sg ln ch nu).2.2.1).toInt ≤ 200 ∧ 0 ≤ ((F_X3_findFault sg ln ch nu).2.2.1).toInt ∧ (((F_X3_findFault sg ln ch nu).2.2.2) < 6 ∨ ((F_X3_findFault sg ln ch nu).2.2.2) = ch)) (fun q k i => [(h_sg, .inl (k_sg, 60, .inl sg)), (h_nu, .inl (k_nu, 3, .inl (F_X3_findFault sg ln ch nu).2.1)), (h_T, .inr (6, [.ref h_sg, .int ln, .int (F_X3_findFault sg ln ch nu).2.2.1, (enV ad (F_X3_findFault sg ln ch nu).2.2.2), .ref h_nu]))]) (fun q k i => [(k_sg, .char), (k_nu, .int)]) (va_A [(h_sg, .inl (k_sg, 60, .inl sg)), (h_nu, .inl (k_nu, 3, .inl nu)), (h_T, .inr (6, [.ref h_sg, .int ln, .int pl, (enV ad ch), .ref h_nu]))] sz)) 0 0 (va_A [(h_sg, .inl (k_sg, 60, .inl sg)), (h_nu, .inl (k_nu, 3, .inl nu)), (h_T, .inr (6, [.ref h_sg, .int ln, .int pl, (enV ad ch), .ref h_nu]))] sz) := by
  refine Met.ofW (cc := cX3_findFault) (maxL := 2) (ret := (some .int)) (by decide) rfl ?_
  intro p e s m args below meth c s₁ B hml hv
  obtain ⟨rfl, hsz, hP, hK, hD0, hF⟩ := hv
  have hx := B.exec
  have hb := B.bytes
  have hr := B.returns
  have hts := atoms_spec (ws := wsX3_findFault) B.pre
  have hown : s.vm.findClass RX3 = some m.cls := findClass_of_methodNamed B.named
  have hlocks := B.notSynchronized
  subst hsz
  have hD := hD0.self (sz := s.heap.size)
  generalize hAe : va_A [(h_sg, .inl (k_sg, 60, .inl sg)), (h_nu, .inl (k_nu, 3, .inl nu)), (h_T, .inr (6, [.ref h_sg, .int ln, .int pl, (enV ad ch), .ref h_nu]))] s.heap.size = A at hD hF ⊢
  have hA : ∀ q : Nat, s.heap.size ≤ q → A q := fun q h => by rw [← hAe]; exact Or.inr h
  obtain ⟨H, hHe⟩ : ∃ H : Heap, H = s.heap := ⟨_, rfl⟩
  have hS : va_S A s.heap H [] := by rw [hHe]; exact va_S.rf
  have hP : va_P D vwCl [(h_sg, .inl (k_sg, 60, .inl sg)), (h_nu, .inl (k_nu, 3, .inl nu)), (h_T, .inr (6, [.ref h_sg, .int ln, .int pl, (enV ad ch), .ref h_nu]))] H := by rw [hHe]; exact hP
  rw [← hHe]
  have hi_X3 : ∀ w ∈ wsX30, w ∈ wsX3_findFault := by decide +kernel
  have hl := lv_entry [.ref h_T] (n := 2) (Nat.le_of_ble_eq_true rfl)
  rw [lg_entry_eq]
  generalize (lg_sl [.ref h_T] ++ List.replicate (2 - (lg_sl [.ref h_T]).length) Slot.unset).toArray = ls at hl ⊢
  have hl : lv_has ls 2 [(0, .ref h_T)] := hl
  have hM : F_X3_findFault sg ln ch nu = (K_X3_findFault_6 (L_X3_findFault_6 sg ln (((60 : Int32).toInt - (0 : Int32).toInt).toNat + 1) 0 F_X3_toStart ch nu)) := rfl
  refine lv_aload_n hx hb dX3_findFault_0 rfl (lv_at hl 0 rfl) ?_
  refine kc_ (wc := [(h_T, .inr (6, [.ref h_sg, .int ln, .int pl, (enV ad ch), .ref h_nu]))]) (wr := [(h_sg, .inl (k_sg, 60, .inl sg)), (h_nu, .inl (k_nu, 3, .inl nu))]) (va_runV (As := []) (rest := []) ⟨hx, hb, hml, hown, hts⟩ (c_X3_toStart l hl0 D ad H.size h_T (.ref h_sg) (.int ln) ((enV ad ch)) (.ref h_nu) pl) (cwV 0 hts gX3_findFault_X3_toStart rfl rfl rfl (by decide +kernel) ⟨Nat.le_of_ble_eq_true rfl, Nat.le_of_ble_eq_true rfl⟩) ⟨PC_.blind, va_recv hK hP (ci := 6) (q0 := 2) rfl rfl, PC_.pre hF hK hP hD hS hA [2] [] rfl (by decide) rfl⟩ rfl rfl hl.1 rfl (lv_room (Nat.le_of_ble_eq_true rfl)) dX3_findFault_1 ⟨(Nat.le_of_ble_eq_true rfl), (Nat.le_of_ble_eq_true rfl)⟩) hK hP hD hS hA [2] [0, 1] [0, 1] rfl rfl (by decide) (by decide) rfl (fun qa_1 ka_1 ia H locs hpo hP hD hK hS => ?_)
  have hP : va_P D vwCl [(h_sg, .inl (k_sg, 60, .inl sg)), (h_nu, .inl (k_nu, 3, .inl nu)), (h_T, .inr (6, [.ref h_sg, .int ln, .int F_X3_toStart, (enV ad ch), .ref h_nu]))] H := hP
  have hD : va_D A [(h_sg, .inl (k_sg, 60, .inl sg)), (h_nu, .inl (k_nu, 3, .inl nu)), (h_T, .inr (6, [.ref h_sg, .int ln, .int F_X3_toStart, (enV ad ch), .ref h_nu]))] := hD
  have hK : va_K D vwCl [(k_sg, .char), (k_nu, .int)] s := hK
  refine W.eq (g2 := F0 m 4 ls []) rfl ?_
  refine lv_iconst (v := 0) hx hb dX3_findFault_4 (by decide) ?_
  refine lv_istore_n (lv' := [(1, .int 0), (0, .ref h_T)]) hx hb dX3_findFault_5 rfl hl (by decide) rfl (fun ls hl => ?_)
  refine lpW (τ := Int32 × Int32 × Nat × (Nat → Int32)) (fun k t H locs ls c9 s9 => ((60 : Int32).toInt - (t.1 : Int32).toInt).toNat < k ∧ 0 ≤ (t.1 : Int32).toInt ∧ 0 ≤ (t.2.1 : Int32).toInt ∧ (t.2.1 : Int32).toInt ≤ 61 ∧ (t.2.2.1 < 6 ∨ t.2.2.1 = ch) ∧ va_P D vwCl [(h_sg, .inl (k_sg, 60, .inl sg)), (h_nu, .inl (k_nu, 3, .inl t.2.2.2)), (h_T, .inr (6, [.ref h_sg, .int ln, .int t.2.1, (enV ad t.2.2.1), .ref h_nu]))] H ∧ va_D A [(h_sg, .inl (k_sg, 60, .inl sg)), (h_nu, .inl (k_nu, 3, .inl t.2.2.2)), (h_T, .inr (6, [.ref h_sg, .int ln, .int t.2.1, (enV ad t.2.2.1), .ref h_nu]))] ∧ va_S A s.heap H locs ∧ lv_has ls 2 [(1, .int t.1), (0, .ref h_T)] ∧ F_X3_findFault sg ln ch nu = (K_X3_findFault_6 (L_X3_findFault_6 sg ln k t.1 t.2.1 t.2.2.1 t.2.2.2)) ∧ c9 = 0 ∧ s9 = 0) (fun t H locs ls c9 s9 h9 => absurd h9.1 (Nat.not_lt_zero _)) (fun k_2 ih t H locs ls c9 s9 hI => ?_) (((60 : Int32).toInt - (0 : Int32).toInt).toNat + 1) (0, F_X3_toStart, ch, nu) ⟨Nat.lt_succ_self _, (show 0 ≤ (0 : Int32).toInt from (by decide +kernel)), (show 0 ≤ (F_X3_toStart : Int32).toInt from (by have z0 := hy0; have z1 := hy1; have b1 := Int32.toInt_lt (F_X3_toStart); have d1 := Int32.le_toInt (F_X3_toStart); omega)), (show (F_X3_toStart : Int32).toInt ≤ 61 from (by have z0 := hy0; have z1 := hy1; have b2 := Int32.toInt_lt (F_X3_toStart); have d2 := Int32.le_toInt (F_X3_toStart); omega)), (show (ch < 6 ∨ ch = ch) from (by have z0 := hy0; have z1 := hy1; omega)), hP, hD, hS, (by exact hl), hM, rfl, rfl⟩
  obtain ⟨x6_1, x6_h_T_2, x6_h_T_3, x6_h_nu⟩ := t
  obtain ⟨hk_2, hz_2, hv_2_0, hv_2_1, hv_2_2, hP, hD, hS, hl, hM, hcs, hss⟩ := hI
  replace hcs := hcs.symm
  subst hcs
  replace hss := hss.symm
  subst hss
  have hP : va_P D vwCl [(h_sg, .inl (k_sg, 60, .inl sg)), (h_nu, .inl (k_nu, 3, .inl x6_h_nu)), (h_T, .inr (6, [.ref h_sg, .int ln, .int x6_h_T_2, (enV ad x6_h_T_3), .ref h_nu]))] H := hP
  have hD : va_D A [(h_sg, .inl (k_sg, 60, .inl sg)), (h_nu, .inl (k_nu, 3, .inl x6_h_nu)), (h_T, .inr (6, [.ref h_sg, .int ln, .int x6_h_T_2, (enV ad x6_h_T_3), .ref h_nu]))] := hD
  have hl : lv_has ls 2 [(1, .int x6_1), (0, .ref h_T)] := hl
  have hz_2 : 0 ≤ (x6_1 : Int32).toInt := hz_2
  have hv_2_0 : 0 ≤ (x6_h_T_2 : Int32).toInt := hv_2_0
  have hv_2_1 : (x6_h_T_2 : Int32).toInt ≤ 61 := hv_2_1
  have hv_2_2 : (x6_h_T_3 < 6 ∨ x6_h_T_3 = ch) := hv_2_2
  have hk_2 : ((60 : Int32).toInt - (x6_1 : Int32).toInt).toNat < k_2 + 1 := hk_2
  have hM : F_X3_findFault sg ln ch nu = (K_X3_findFault_6 ((if 60 ≤ x6_1 then (none, x6_1, x6_h_T_2, x6_h_T_3, x6_h_nu) else (K_X3_findFault_13 ln x6_1 x6_h_T_2 x6_h_T_3 x6_h_nu (L_X3_findFault_6 sg ln k_2) (F_X3_readCommand sg ln x6_h_T_2 x6_h_T_3 x6_h_nu))))) := hM
  have ih_2 := ih
  refine lv_iload_n hx hb dX3_findFault_6 rfl (lv_at hl 0 rfl) ?_
  refine lv_bipush (v := 60) hx hb dX3_findFault_7 (by decide) ?_
  refine lv_icmp_ge (tgt := 47) hx hb dX3_findFault_9 (by decide) (fun c_3 => ?_) (fun c_3 => ?_)
  · rw [if_pos c_3] at hM
    have hM : F_X3_findFault sg ln ch nu = (x6_h_T_2, x6_h_nu, x6_h_T_2, x6_h_T_3) := hM
    refine lv_aload_n hx hb dX3_findFault_47 rfl (lv_at hl 1 rfl) ?_
    refine va_get (D := D) (ci := 6) (v := .int x6_h_T_2) (own := RX3) (C := RX3) (T := TX3) (N := 5) hx hb hts hi_X3 hown hK hP 2 rfl rfl 2 (by decide) (hts (.fieldLink RX3 19 "CanalMaps$CommandText" "place" "I") (List.mem_of_getElem? (i := 1) (by decide +kernel))) (fun _ h9 => h9) rfl dX3_findFault_48 ?_
    refine W.widen (k := 0) (n := 0) (Nat.le_of_ble_eq_true rfl) (Nat.le_of_ble_eq_true rfl) ?_
    exact W.iret (v := x6_h_T_2) hx hb hr (QG_.mk (fun _ => 0) (fun _ => 0) (fun _ => 0) [0, 1, 2] [0, 1] hP hD hK hS (by rw [hM]) (by rw [hM]; exact ⟨(show x6_h_T_2.toInt ≤ 200 from (by have y0 := f_le c_3; have z0 := hy0; have z1 := hy1; have z2 := hz_2; have z3 := hv_2_0; have z4 := hv_2_1; have z5 := hv_2_2; have e_60 : (60 : Int32).toInt = 60 := (by decide +kernel); have b3 := Int32.toInt_lt (x6_h_T_2); have d3 := Int32.le_toInt (x6_h_T_2); omega)), (show 0 ≤ x6_h_T_2.toInt from (by have y0 := f_le c_3; have z0 := hy0; have z1 := hy1; have z2 := hz_2; have z3 := hv_2_0; have z4 := hv_2_1; have z5 := hv_2_2; have e_60 : (60 : Int32).toInt = 60 := (by decide +kernel); have b4 := Int32.toInt_lt (x6_h_T_2); have d4 := Int32.le_toInt (x6_h_T_2); omega)), (show (x6_h_T_3 < 6 ∨ x6_h_T_3 = ch) from (by have y0 := f_le c_3; have z0 := hy0; have z1 := hy1; have z2 := hz_2; have z3 := hv_2_0; have z4 := hv_2_1; have z5 := hv_2_2; have e_60 : (60 : Int32).toInt = 60 := (by decide +kernel); omega))⟩) (by first | (rw [hM]; rfl) | rfl) (by decide) rfl) hS.2.2 dX3_findFault_51
  · rw [if_neg c_3] at hM
    refine lv_aload_n hx hb dX3_findFault_12 rfl (lv_at hl 1 rfl) ?_
    have hcon := (c_X3_readCommand l hl0 D ad H.size h_sg h_nu h_T k_sg k_nu sg x6_h_nu ln x6_h_T_2 x6_h_T_3 (by have y0 := f_nle c_3; have z0 := hy0; have z1 := hy1; have z2 := hz_2; have z3 := hv_2_0; have z4 := hv_2_1; have z5 := hv_2_2; have e_60 : (60 : Int32).toInt = 60 := (by decide +kernel); omega) (by have y0 := f_nle c_3; have z0 := hy0; have z1 := hy1; have z2 := hz_2; have z3 := hv_2_0; have z4 := hv_2_1; have z5 := hv_2_2; have e_60 : (60 : Int32).toInt = 60 := (by decide +kernel); omega) (by have y0 := f_nle c_3; have z0 := hy0; have z1 := hy1; have z2 := hz_2; have z3 := hv_2_0; have z4 := hv_2_1; have z5 := hv_2_2; have e_60 : (60 : Int32).toInt = 60 := (by decide +kernel); omega) (by have y0 := f_nle c_3; have z0 := hy0; have z1 := hy1; have z2 := hz_2; have z3 := hv_2_0; have z4 := hv_2_1; have z5 := hv_2_2; have e_60 : (60 : Int32).toInt = 60 := (by decide +kernel); omega))
    generalize hy_4 : (F_X3_readCommand sg ln x6_h_T_2 x6_h_T_3 x6_h_nu) = y9 at hcon hM
    obtain ⟨y13_0, y13_1, y13_2, y13_3⟩ := y9
    refine kc_ (wc := [(h_sg, .inl (k_sg, 60, .inl sg)), (h_nu, .inl (k_nu, 3, .inl x6_h_nu)), (h_T, .inr (6, [.ref h_sg, .int ln, .int x6_h_T_2, (enV ad x6_h_T_3), .ref h_nu]))]) (wr := []) (va_runV (As := []) (rest := []) ⟨hx, hb, hml, hown, hts⟩ hcon (cwV 0 hts gX3_findFault_X3_readCommand rfl rfl rfl (by decide +kernel) ⟨Nat.le_of_ble_eq_true rfl, Nat.le_of_ble_eq_true rfl⟩) ⟨PC_.blind, va_recv hK hP (ci := 6) (q0 := 2) rfl rfl, PC_.pre hF hK hP hD hS hA [0, 1, 2] [0, 1] rfl (by decide) rfl⟩ rfl rfl hl.1 rfl (lv_room (Nat.le_of_ble_eq_true rfl)) dX3_findFault_13 ⟨(Nat.le_of_ble_eq_true rfl), (Nat.le_of_ble_eq_true rfl)⟩) hK hP hD hS hA [0, 1, 2] [] [] rfl rfl (by decide) (by decide) rfl (fun qa_4 ka_4 ia H locs hpo hP hD hK hS => ?_)
    have hM : F_X3_findFault sg ln ch nu = (K_X3_findFault_6 ((if y13_0 = 0 then ((some (y13_2, y13_1, y13_2, y13_3)), x6_1, x6_h_T_2, x6_h_T_3, x6_h_nu) else (if y13_2 < ln then ((L_X3_findFault_6 sg ln k_2) (x6_1 + 1) (F_X3_skipSign y13_2) y13_3 y13_1) else ((some ((-1), y13_1, y13_2, y13_3)), x6_1, x6_h_T_2, x6_h_T_3, x6_h_nu))))) := hM
    have hen_4 : x6_h_T_2.toInt ≤ y13_2.toInt ∧ (y13_2.toInt ≤ 60 ∨ y13_2.toInt = x6_h_T_2.toInt) ∧ (y13_3 < 6 ∨ y13_3 = x6_h_T_3) := hpo
    have hP : va_P D vwCl [(h_sg, .inl (k_sg, 60, .inl sg)), (h_nu, .inl (k_nu, 3, .inl y13_1)), (h_T, .inr (6, [.ref h_sg, .int ln, .int y13_2, (enV ad y13_3), .ref h_nu]))] H := hP
    have hD : va_D A [(h_sg, .inl (k_sg, 60, .inl sg)), (h_nu, .inl (k_nu, 3, .inl y13_1)), (h_T, .inr (6, [.ref h_sg, .int ln, .int y13_2, (enV ad y13_3), .ref h_nu]))] := hD
    have hK : va_K D vwCl [(k_sg, .char), (k_nu, .int)] s := hK
    refine W.eq (g2 := F0 m 16 ls [.int y13_0]) rfl ?_
    refine lv_if_ne (tgt := 24) hx hb dX3_findFault_16 (by decide) (fun c_5 => ?_) (fun c_5 => ?_)
    · rw [if_neg c_5] at hM
      refine lv_aload_n hx hb dX3_findFault_24 rfl (lv_at hl 1 rfl) ?_
      refine va_get (D := D) (ci := 6) (v := .int y13_2) (own := RX3) (C := RX3) (T := TX3) (N := 5) hx hb hts hi_X3 hown hK hP 2 rfl rfl 2 (by decide) (hts (.fieldLink RX3 19 "CanalMaps$CommandText" "place" "I") (List.mem_of_getElem? (i := 1) (by decide +kernel))) (fun _ h9 => h9) rfl dX3_findFault_25 ?_
      refine lv_aload_n hx hb dX3_findFault_28 rfl (lv_at hl 1 rfl) ?_
      refine va_get (D := D) (ci := 6) (v := .int ln) (own := RX3) (C := RX3) (T := TX3) (N := 5) hx hb hts hi_X3 hown hK hP 2 rfl rfl 1 (by decide) (hts (.fieldLink RX3 15 "CanalMaps$CommandText" "length" "I") (List.mem_of_getElem? (i := 2) (by decide +kernel))) (fun _ h9 => h9) rfl dX3_findFault_29 ?_
      refine lv_icmp_lt (tgt := 37) hx hb dX3_findFault_32 (by decide) (fun c_6 => ?_) (fun c_6 => ?_)
      · rw [if_pos c_6] at hM
        refine lv_aload_n hx hb dX3_findFault_37 rfl (lv_at hl 1 rfl) ?_
        obtain ⟨y9, hy9⟩ : ∃ y9, (F_X3_skipSign y13_2) = y9 := ⟨_, rfl⟩
        have hcon := (c_X3_skipSign l hl0 D ad H.size h_T (.ref h_sg) (.int ln) ((enV ad y13_3)) (.ref h_nu) y13_2)
        rw [hy9] at hcon
        refine kc_ (wc := [(h_T, .inr (6, [.ref h_sg, .int ln, .int y13_2, (enV ad y13_3), .ref h_nu]))]) (wr := [(h_sg, .inl (k_sg, 60, .inl sg)), (h_nu, .inl (k_nu, 3, .inl y13_1))]) (va_runV (As := []) (rest := []) ⟨hx, hb, hml, hown, hts⟩ hcon (cwV 0 hts gX3_findFault_X3_skipSign rfl rfl rfl (by decide +kernel) ⟨Nat.le_of_ble_eq_true rfl, Nat.le_of_ble_eq_true rfl⟩) ⟨PC_.blind, va_recv hK hP (ci := 6) (q0 := 2) rfl rfl, PC_.pre hF hK hP hD hS hA [2] [] rfl (by decide) rfl⟩ rfl rfl hl.1 rfl (lv_room (Nat.le_of_ble_eq_true rfl)) dX3_findFault_38 ⟨(Nat.le_of_ble_eq_true rfl), (Nat.le_of_ble_eq_true rfl)⟩) hK hP hD hS hA [2] [0, 1] [0, 1] rfl rfl (by decide) (by decide) rfl (fun qa_7 ka_7 ia H locs hpo hP hD hK hS => ?_)
        subst hy9
        have hP : va_P D vwCl [(h_sg, .inl (k_sg, 60, .inl sg)), (h_nu, .inl (k_nu, 3, .inl y13_1)), (h_T, .inr (6, [.ref h_sg, .int ln, .int (F_X3_skipSign y13_2), (enV ad y13_3), .ref h_nu]))] H := hP
        have hD : va_D A [(h_sg, .inl (k_sg, 60, .inl sg)), (h_nu, .inl (k_nu, 3, .inl y13_1)), (h_T, .inr (6, [.ref h_sg, .int ln, .int (F_X3_skipSign y13_2), (enV ad y13_3), .ref h_nu]))] := hD
        have hK : va_K D vwCl [(k_sg, .char), (k_nu, .int)] s := hK
        refine W.eq (g2 := F0 m 41 ls []) rfl ?_
        refine lv_iinc (v := (x6_1 + 1)) (lv' := [(1, .int (x6_1 + 1)), (0, .ref h_T)]) hx hb dX3_findFault_41 hl (k := 0) rfl rfl (by decide) rfl (fun ls hl => ?_)
        refine lv_goto (tgt := 6) hx hb dX3_findFault_44 (by decide) ?_
        exact ih_2 ((x6_1 + 1), (F_X3_skipSign y13_2), y13_3, y13_1) _ _ _ _ _ ⟨lp_up hk_2 c_3, lp_up0 hz_2 c_3, (show 0 ≤ ((F_X3_skipSign y13_2) : Int32).toInt from (by have y0 := f_nle c_3; have y1 := f_neq c_5; have y2 := f_lt c_6; have z0 := hy0; have z1 := hy1; have z2 := hz_2; have z3 := hv_2_0; have z4 := hv_2_1; have z5 := hv_2_2; have z6 := hen_4; have e_0 : (0 : Int32).toInt = 0 := (by decide +kernel); have e_60 : (60 : Int32).toInt = 60 := (by decide +kernel); have b5 := Int32.toInt_lt (F_X3_skipSign y13_2); have d5 := Int32.le_toInt (F_X3_skipSign y13_2); omega)), (show ((F_X3_skipSign y13_2) : Int32).toInt ≤ 61 from (by have y0 := f_nle c_3; have y1 := f_neq c_5; have y2 := f_lt c_6; have z0 := hy0; have z1 := hy1; have z2 := hz_2; have z3 := hv_2_0; have z4 := hv_2_1; have z5 := hv_2_2; have z6 := hen_4; have e_0 : (0 : Int32).toInt = 0 := (by decide +kernel); have e_60 : (60 : Int32).toInt = 60 := (by decide +kernel); have b6 := Int32.toInt_lt (F_X3_skipSign y13_2); have d6 := Int32.le_toInt (F_X3_skipSign y13_2); omega)), (show (y13_3 < 6 ∨ y13_3 = ch) from (by have y0 := f_nle c_3; have y1 := f_neq c_5; have y2 := f_lt c_6; have z0 := hy0; have z1 := hy1; have z2 := hz_2; have z3 := hv_2_0; have z4 := hv_2_1; have z5 := hv_2_2; have z6 := hen_4; have e_0 : (0 : Int32).toInt = 0 := (by decide +kernel); have e_60 : (60 : Int32).toInt = 60 := (by decide +kernel); omega)), hP, hD, hS, lv_sub hl [0, 1] rfl, hM, rfl, rfl⟩
      · rw [if_neg c_6] at hM
        have hM : F_X3_findFault sg ln ch nu = ((-1), y13_1, y13_2, y13_3) := hM
        refine lv_iconst (v := (-1)) hx hb dX3_findFault_35 (by decide) ?_
        refine W.widen (k := 0) (n := 0) (Nat.le_of_ble_eq_true rfl) (Nat.le_of_ble_eq_true rfl) ?_
        exact W.iret (v := (-1)) hx hb hr (QG_.mk (fun _ => 0) (fun _ => 0) (fun _ => 0) [0, 1, 2] [0, 1] hP hD hK hS (by rw [hM]) (by rw [hM]; exact ⟨(show y13_2.toInt ≤ 200 from (by have y0 := f_nle c_3; have y1 := f_neq c_5; have y2 := f_nlt c_6; have z0 := hy0; have z1 := hy1; have z2 := hz_2; have z3 := hv_2_0; have z4 := hv_2_1; have z5 := hv_2_2; have z6 := hen_4; have e_0 : (0 : Int32).toInt = 0 := (by decide +kernel); have e_60 : (60 : Int32).toInt = 60 := (by decide +kernel); have b7 := Int32.toInt_lt (y13_2); have d7 := Int32.le_toInt (y13_2); omega)), (show 0 ≤ y13_2.toInt from (by have y0 := f_nle c_3; have y1 := f_neq c_5; have y2 := f_nlt c_6; have z0 := hy0; have z1 := hy1; have z2 := hz_2; have z3 := hv_2_0; have z4 := hv_2_1; have z5 := hv_2_2; have z6 := hen_4; have e_0 : (0 : Int32).toInt = 0 := (by decide +kernel); have e_60 : (60 : Int32).toInt = 60 := (by decide +kernel); have b8 := Int32.toInt_lt (y13_2); have d8 := Int32.le_toInt (y13_2); omega)), (show (y13_3 < 6 ∨ y13_3 = ch) from (by have y0 := f_nle c_3; have y1 := f_neq c_5; have y2 := f_nlt c_6; have z0 := hy0; have z1 := hy1; have z2 := hz_2; have z3 := hv_2_0; have z4 := hv_2_1; have z5 := hv_2_2; have z6 := hen_4; have e_0 : (0 : Int32).toInt = 0 := (by decide +kernel); have e_60 : (60 : Int32).toInt = 60 := (by decide +kernel); omega))⟩) (by first | (rw [hM]; rfl) | rfl) (by decide) rfl) hS.2.2 dX3_findFault_36
    · rw [if_pos c_5] at hM
      have hM : F_X3_findFault sg ln ch nu = (y13_2, y13_1, y13_2, y13_3) := hM
      refine lv_aload_n hx hb dX3_findFault_19 rfl (lv_at hl 1 rfl) ?_
      refine va_get (D := D) (ci := 6) (v := .int y13_2) (own := RX3) (C := RX3) (T := TX3) (N := 5) hx hb hts hi_X3 hown hK hP 2 rfl rfl 2 (by decide) (hts (.fieldLink RX3 19 "CanalMaps$CommandText" "place" "I") (List.mem_of_getElem? (i := 1) (by decide +kernel))) (fun _ h9 => h9) rfl dX3_findFault_20 ?_
      refine W.widen (k := 0) (n := 0) (Nat.le_of_ble_eq_true rfl) (Nat.le_of_ble_eq_true rfl) ?_
      exact W.iret (v := y13_2) hx hb hr (QG_.mk (fun _ => 0) (fun _ => 0) (fun _ => 0) [0, 1, 2] [0, 1] hP hD hK hS (by rw [hM]) (by rw [hM]; exact ⟨(show y13_2.toInt ≤ 200 from (by have y0 := f_nle c_3; have y1 := f_eq c_5; have z0 := hy0; have z1 := hy1; have z2 := hz_2; have z3 := hv_2_0; have z4 := hv_2_1; have z5 := hv_2_2; have z6 := hen_4; have e_0 : (0 : Int32).toInt = 0 := (by decide +kernel); have e_60 : (60 : Int32).toInt = 60 := (by decide +kernel); have b9 := Int32.toInt_lt (y13_2); have d9 := Int32.le_toInt (y13_2); omega)), (show 0 ≤ y13_2.toInt from (by have y0 := f_nle c_3; have y1 := f_eq c_5; have z0 := hy0; have z1 := hy1; have z2 := hz_2; have z3 := hv_2_0; have z4 := hv_2_1; have z5 := hv_2_2; have z6 := hen_4; have e_0 : (0 : Int32).toInt = 0 := (by decide +kernel); have e_60 : (60 : Int32).toInt = 60 := (by decide +kernel); have b10 := Int32.toInt_lt (y13_2); have d10 := Int32.le_toInt (y13_2); omega)), (show (y13_3 < 6 ∨ y13_3 = ch) from (by have y0 := f_nle c_3; have y1 := f_eq c_5; have z0 := hy0; have z1 := hy1; have z2 := hz_2; have z3 := hv_2_0; have z4 := hv_2_1; have z5 := hv_2_2; have z6 := hen_4; have e_0 : (0 : Int32).toInt = 0 := (by decide +kernel); have e_60 : (60 : Int32).toInt = 60 := (by decide +kernel); omega))⟩) (by first | (rw [hM]; rfl) | rfl) (by decide) rfl) hS.2.2 dX3_findFault_23
