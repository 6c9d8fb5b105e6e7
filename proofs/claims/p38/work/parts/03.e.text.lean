def F_X3_isFull (ln : Int32) : Int32 := (if ln < 60 then 0 else 1)
theorem R_X3_isFull {n : Int32} (h : F_X3_isFull n = 0) : n.toInt < 60 := by
  unfold F_X3_isFull at h
  by_cases c1 : n < 60
  · exact f_lt c1
  rw [if_neg c1] at h
  exact absurd h (by decide)
set_option maxHeartbeats 4000000 in
set_option maxRecDepth 100000 in
theorem c_X3_isFull (l : Launch) (hl0 : l.stackTraces = false) (D : va_G) (ad : Nat → Nat) (sz : Nat) (h_T : Nat) (h_T_0 : Value) (h_T_2 : Value) (h_T_3 : Value) (h_T_4 : Value) (ln : Int32) (hy0 : 0 ≤ ln.toInt) (hy1 : ln.toInt ≤ 60) : Met l yX3_isFull wsX3_isFull ({ frames := 0, cells := 0, slots := 0, locals := 0 }) (PR_ D ad [(h_T, .inr (6, [h_T_0, .int ln, h_T_2, h_T_3, h_T_4]))] [] sz [.ref h_T]) (QR_ (.int (F_X3_isFull ln)) (va_A [] sz)) 0 0 (va_A [] sz) := by
  refine Met.ofW (cc := cX3_isFull) (maxL := 1) (ret := (some .boolean)) (by decide) rfl ?_
  intro p e s m args below meth c s₁ B hml hv
  obtain ⟨rfl, hsz, hP, hK, hF⟩ := hv
  have hx := B.exec
  have hb := B.bytes
  have hr := B.returns
  have hts := atoms_spec (ws := wsX3_isFull) B.pre
  have hown : s.vm.findClass RX3 = some m.cls := findClass_of_methodNamed B.named
  have hlocks := B.notSynchronized
  subst hsz
  generalize hAe : va_A [] s.heap.size = A at hF ⊢
  have hA : ∀ q : Nat, s.heap.size ≤ q → A q := fun q h => by rw [← hAe]; exact Or.inr h
  obtain ⟨H, hHe⟩ : ∃ H : Heap, H = s.heap := ⟨_, rfl⟩
  have hS : va_S A s.heap H [] := by rw [hHe]; exact va_S.rf
  have hP : va_P D vwCl [(h_T, .inr (6, [h_T_0, .int ln, h_T_2, h_T_3, h_T_4]))] H := by rw [hHe]; exact hP
  rw [← hHe]
  have hi_X3 : ∀ w ∈ wsX30, w ∈ wsX3_isFull := by decide +kernel
  have hl := lv_entry [.ref h_T] (n := 1) (Nat.le_of_ble_eq_true rfl)
  rw [lg_entry_eq]
  generalize (lg_sl [.ref h_T] ++ List.replicate (1 - (lg_sl [.ref h_T]).length) Slot.unset).toArray = ls at hl ⊢
  have hl : lv_has ls 1 [(0, .ref h_T)] := hl
  have hM : F_X3_isFull ln = (if ln < 60 then 0 else 1) := rfl
  refine lv_aload_n hx hb dX3_isFull_0 rfl (lv_at hl 0 rfl) ?_
  refine va_get (D := D) (ci := 6) (v := .int ln) (own := RX3) (C := RX3) (T := TX3) (N := 5) hx hb hts hi_X3 hown hK hP 0 rfl rfl 1 (by decide) (hts (.fieldLink RX3 15 "CanalMaps$CommandText" "length" "I") (List.mem_of_getElem? (i := 1) (by decide +kernel))) (fun _ h9 => h9) rfl dX3_isFull_1 ?_
  refine lv_bipush (v := 60) hx hb dX3_isFull_4 (by decide) ?_
  refine lv_icmp_lt (tgt := 13) hx hb dX3_isFull_6 (by decide) (fun c_1 => ?_) (fun c_1 => ?_)
  · rw [if_pos c_1] at hM
    refine lv_iconst (v := 0) hx hb dX3_isFull_13 (by decide) ?_
    refine W.widen (k := 0) (n := 0) (Nat.le_of_ble_eq_true rfl) (Nat.le_of_ble_eq_true rfl) ?_
    exact W.zret (v := 0) hx hb hr rfl (QR_.mk hS (by rw [hM])) hS.2.2 dX3_isFull_14
  · rw [if_neg c_1] at hM
    refine lv_iconst (v := 1) hx hb dX3_isFull_9 (by decide) ?_
    refine lv_goto (tgt := 14) hx hb dX3_isFull_10 (by decide) ?_
    refine W.widen (k := 0) (n := 0) (Nat.le_of_ble_eq_true rfl) (Nat.le_of_ble_eq_true rfl) ?_
    exact W.zret (v := 1) hx hb hr rfl (QR_.mk hS (by rw [hM])) hS.2.2 dX3_isFull_14
def F_X3_write (sg : Nat → Int32) (ln : Int32) (a1 : Int32) : (Nat → Int32) × Int32 := (if (F_X3_isFull ln) = 0 then ((upd sg (ix ln) (ci_ a1)), (ln + 1)) else (sg, ln))
theorem R_X3_write {sg : Nat → Int32} {ln a : Int32} (h0 : 0 ≤ ln.toInt) (h1 : ln.toInt ≤ 60) : 0 ≤ (F_X3_write sg ln a).2.toInt ∧ (F_X3_write sg ln a).2.toInt ≤ 60 := by
  have e1 : (1 : Int32).toInt = 1 := by decide +kernel
  unfold F_X3_write
  by_cases c : F_X3_isFull ln = 0
  · rw [if_pos c]
    have y := R_X3_isFull c
    have q := addI (a := ln) (b := 1) (by omega) (by omega)
    show 0 ≤ (ln + 1).toInt ∧ (ln + 1).toInt ≤ 60
    omega
  · rw [if_neg c]
    exact ⟨h0, h1⟩
set_option maxHeartbeats 4000000 in
set_option maxRecDepth 100000 in
theorem c_X3_write (l : Launch) (hl0 : l.stackTraces = false) (D : va_G) (ad : Nat → Nat) (sz : Nat) (h_sg : Nat) (h_T : Nat) (k_sg : ClassId) (h_T_2 : Value) (h_T_3 : Value) (h_T_4 : Value) (sg : Nat → Int32) (ln : Int32) (a1 : Int32) (hy0 : 0 ≤ ln.toInt) (hy1 : ln.toInt ≤ 60) : Met l yX3_write wsX3_write ({ frames := 1, cells := 0, slots := 0, locals := 22 }) (PC_ D ad [(h_sg, .inl (k_sg, 60, .inl sg)), (h_T, .inr (6, [.ref h_sg, .int ln, h_T_2, h_T_3, h_T_4]))] [(k_sg, .char)] sz [.ref h_T, .int (ci_ a1)]) (QG_ D (fun q i => none) (fun q i => True) (fun q k i => [(h_sg, .inl (k_sg, 60, .inl (F_X3_write sg ln a1).1)), (h_T, .inr (6, [.ref h_sg, .int (F_X3_write sg ln a1).2, h_T_2, h_T_3, h_T_4]))]) (fun q k i => [(k_sg, .char)]) (va_A [(h_sg, .inl (k_sg, 60, .inl sg)), (h_T, .inr (6, [.ref h_sg, .int ln, h_T_2, h_T_3, h_T_4]))] sz)) 0 0 (va_A [(h_sg, .inl (k_sg, 60, .inl sg)), (h_T, .inr (6, [.ref h_sg, .int ln, h_T_2, h_T_3, h_T_4]))] sz) := by
  refine Met.ofW (cc := cX3_write) (maxL := 2) (ret := none) (by decide) rfl ?_
  intro p e s m args below meth c s₁ B hml hv
  obtain ⟨rfl, hsz, hP, hK, hD0, hF⟩ := hv
  have hx := B.exec
  have hb := B.bytes
  have hr := B.returns
  have hts := atoms_spec (ws := wsX3_write) B.pre
  have hown : s.vm.findClass RX3 = some m.cls := findClass_of_methodNamed B.named
  have hlocks := B.notSynchronized
  subst hsz
  have hD := hD0.self (sz := s.heap.size)
  generalize hAe : va_A [(h_sg, .inl (k_sg, 60, .inl sg)), (h_T, .inr (6, [.ref h_sg, .int ln, h_T_2, h_T_3, h_T_4]))] s.heap.size = A at hD hF ⊢
  have hA : ∀ q : Nat, s.heap.size ≤ q → A q := fun q h => by rw [← hAe]; exact Or.inr h
  obtain ⟨H, hHe⟩ : ∃ H : Heap, H = s.heap := ⟨_, rfl⟩
  have hS : va_S A s.heap H [] := by rw [hHe]; exact va_S.rf
  have hP : va_P D vwCl [(h_sg, .inl (k_sg, 60, .inl sg)), (h_T, .inr (6, [.ref h_sg, .int ln, h_T_2, h_T_3, h_T_4]))] H := by rw [hHe]; exact hP
  rw [← hHe]
  have hi_X3 : ∀ w ∈ wsX30, w ∈ wsX3_write := by decide +kernel
  have hl := lv_entry [.ref h_T, .int (ci_ a1)] (n := 2) (Nat.le_of_ble_eq_true rfl)
  rw [lg_entry_eq]
  generalize (lg_sl [.ref h_T, .int (ci_ a1)] ++ List.replicate (2 - (lg_sl [.ref h_T, .int (ci_ a1)]).length) Slot.unset).toArray = ls at hl ⊢
  have hl : lv_has ls 2 [(0, .ref h_T), (1, .int (ci_ a1))] := hl
  have hM : F_X3_write sg ln a1 = (if (F_X3_isFull ln) = 0 then ((upd sg (ix ln) (ci_ a1)), (ln + 1)) else (sg, ln)) := rfl
  refine lv_aload_n hx hb dX3_write_0 rfl (lv_at hl 0 rfl) ?_
  obtain ⟨y9, hy9⟩ : ∃ y9, (F_X3_isFull ln) = y9 := ⟨_, rfl⟩
  have hcon := (c_X3_isFull l hl0 D ad H.size h_T (.ref h_sg) (h_T_2) (h_T_3) (h_T_4) ln (by have z0 := hy0; have z1 := hy1; omega) (by have z0 := hy0; have z1 := hy1; omega))
  rw [hy9] at hcon
  refine kr_ (va_runV (As := []) (rest := []) ⟨hx, hb, hml, hown, hts⟩ hcon (cwV 0 hts gX3_write_X3_isFull rfl rfl rfl (by decide +kernel) ⟨Nat.le_of_ble_eq_true rfl, Nat.le_of_ble_eq_true rfl⟩) ⟨PR_.blind, va_recv hK hP (ci := 6) (q0 := 1) rfl rfl, PR_.pre hF hK (hP.sub [1] rfl) hS hA [] rfl⟩ rfl rfl hl.1 rfl (lv_room (Nat.le_of_ble_eq_true rfl)) dX3_write_1 ⟨(Nat.le_of_ble_eq_true rfl), (Nat.le_of_ble_eq_true rfl)⟩) hP hS hA (fun H locs hP hS => ?_)
  subst hy9
  refine W.eq (g2 := F0 m 4 ls [.int (F_X3_isFull ln)]) rfl ?_
  refine lv_if_ne (tgt := 27) hx hb dX3_write_4 (by decide) (fun c_2 => ?_) (fun c_2 => ?_)
  · rw [if_neg c_2] at hM
    refine W.widen (k := 0) (n := 0) (Nat.le_of_ble_eq_true rfl) (Nat.le_of_ble_eq_true rfl) ?_
    exact W.vret hx hb hr (QG_.mk (fun _ => 0) (fun _ => 0) (fun _ => 0) [0, 1] [0] hP hD hK hS rfl trivial (by first | (rw [hM]; rfl) | rfl) (by decide) rfl) hS.2.2 dX3_write_27
  · rw [if_pos c_2] at hM
    refine lv_aload_n hx hb dX3_write_7 rfl (lv_at hl 0 rfl) ?_
    refine va_get (D := D) (ci := 6) (v := .ref h_sg) (own := RX3) (C := RX3) (T := TX3) (N := 5) hx hb hts hi_X3 hown hK hP 1 rfl rfl 0 (by decide) (hts (.fieldLink RX3 9 "CanalMaps$CommandText" "signs" "[C") (List.mem_of_getElem? (i := 1) (by decide +kernel))) (fun _ h9 => h9) rfl dX3_write_8 ?_
    refine lv_aload_n hx hb dX3_write_11 rfl (lv_at hl 0 rfl) ?_
    refine va_get (D := D) (ci := 6) (v := .int ln) (own := RX3) (C := RX3) (T := TX3) (N := 5) hx hb hts hi_X3 hown hK hP 1 rfl rfl 1 (by decide) (hts (.fieldLink RX3 15 "CanalMaps$CommandText" "length" "I") (List.mem_of_getElem? (i := 2) (by decide +kernel))) (fun _ h9 => h9) rfl dX3_write_12 ?_
    refine lv_iload_n hx hb dX3_write_15 rfl (lv_at hl 1 rfl) ?_
    refine ka_cast (g := (upd sg (ix ln) (ci_ a1))) hx hb hK hP hD hS 0 0 rfl rfl (vinI (by have y0 := R_X3_isFull c_2; have z0 := hy0; have z1 := hy1; have b4 := Int32.toInt_lt (ln); have d4 := Int32.le_toInt (ln); omega) (by have y0 := R_X3_isFull c_2; have z0 := hy0; have z1 := hy1; have b4 := Int32.toInt_lt (ln); have d4 := Int32.le_toInt (ln); omega)) (by exact ci_nar _) rfl dX3_write_16 (fun H locs hP hD hS => ?_)
    have hP : va_P D vwCl [(h_sg, .inl (k_sg, 60, .inl (upd sg (ix ln) (ci_ a1)))), (h_T, .inr (6, [.ref h_sg, .int ln, h_T_2, h_T_3, h_T_4]))] H := hP
    have hD : va_D A [(h_sg, .inl (k_sg, 60, .inl (upd sg (ix ln) (ci_ a1)))), (h_T, .inr (6, [.ref h_sg, .int ln, h_T_2, h_T_3, h_T_4]))] := hD
    refine lv_aload_n hx hb dX3_write_17 rfl (lv_at hl 0 rfl) ?_
    refine lv_dup hx hb dX3_write_18 rfl ?_
    refine va_get (D := D) (ci := 6) (v := .int ln) (own := RX3) (C := RX3) (T := TX3) (N := 5) hx hb hts hi_X3 hown hK hP 1 rfl rfl 1 (by decide) (hts (.fieldLink RX3 15 "CanalMaps$CommandText" "length" "I") (List.mem_of_getElem? (i := 2) (by decide +kernel))) (fun _ h9 => h9) rfl dX3_write_19 ?_
    refine lv_iconst (v := 1) hx hb dX3_write_22 (by decide) ?_
    refine lv_iadd hx hb dX3_write_23 ?_
    refine va_put (D := D) (ci := 6) (v := .int (ln + 1)) (ty := .int) (own := RX3) (C := RX3) (T := TX3) (N := 5) hx hb hts hi_X3 tyX3 tyX3_ok nmX3 hown hK hP hD hS 1 rfl rfl 1 (by decide) (hts (.fieldLink RX3 15 "CanalMaps$CommandText" "length" "I") (List.mem_of_getElem? (i := 2) (by decide +kernel))) (fun _ h9 => h9) rfl (by decide +kernel) rfl rfl (Nat.le_of_ble_eq_true rfl) dX3_write_24 (fun H locs hP hD hS => ?_)
    have hP : va_P D vwCl [(h_sg, .inl (k_sg, 60, .inl (upd sg (ix ln) (ci_ a1)))), (h_T, .inr (6, [.ref h_sg, .int (ln + 1), h_T_2, h_T_3, h_T_4]))] H := hP
    have hD : va_D A [(h_sg, .inl (k_sg, 60, .inl (upd sg (ix ln) (ci_ a1)))), (h_T, .inr (6, [.ref h_sg, .int (ln + 1), h_T_2, h_T_3, h_T_4]))] := hD
    refine W.widen (k := 0) (n := 0) (Nat.le_of_ble_eq_true rfl) (Nat.le_of_ble_eq_true rfl) ?_
    exact W.vret hx hb hr (QG_.mk (fun _ => 0) (fun _ => 0) (fun _ => 0) [0, 1] [0] hP hD hK hS rfl trivial (by first | (rw [hM]; rfl) | rfl) (by decide) rfl) hS.2.2 dX3_write_27
def F_X3_clear  : Int32 := 0
set_option maxHeartbeats 4000000 in
set_option maxRecDepth 100000 in
theorem c_X3_clear (l : Launch) (hl0 : l.stackTraces = false) (D : va_G) (ad : Nat → Nat) (sz : Nat) (h_T : Nat) (h_T_0 : Value) (h_T_2 : Value) (h_T_3 : Value) (h_T_4 : Value) (ln : Int32) (hy0 : 0 ≤ ln.toInt) (hy1 : ln.toInt ≤ 60) : Met l yX3_clear wsX3_clear ({ frames := 0, cells := 0, slots := 0, locals := 0 }) (PC_ D ad [(h_T, .inr (6, [h_T_0, .int ln, h_T_2, h_T_3, h_T_4]))] [] sz [.ref h_T]) (QG_ D (fun q i => none) (fun q i => True) (fun q k i => [(h_T, .inr (6, [h_T_0, .int (F_X3_clear), h_T_2, h_T_3, h_T_4]))]) (fun q k i => []) (va_A [(h_T, .inr (6, [h_T_0, .int ln, h_T_2, h_T_3, h_T_4]))] sz)) 0 0 (va_A [(h_T, .inr (6, [h_T_0, .int ln, h_T_2, h_T_3, h_T_4]))] sz) := by
  refine Met.ofW (cc := cX3_clear) (maxL := 1) (ret := none) (by decide) rfl ?_
  intro p e s m args below meth c s₁ B hml hv
  obtain ⟨rfl, hsz, hP, hK, hD0, hF⟩ := hv
  have hx := B.exec
  have hb := B.bytes
  have hr := B.returns
  have hts := atoms_spec (ws := wsX3_clear) B.pre
  have hown : s.vm.findClass RX3 = some m.cls := findClass_of_methodNamed B.named
  have hlocks := B.notSynchronized
  subst hsz
  have hD := hD0.self (sz := s.heap.size)
  generalize hAe : va_A [(h_T, .inr (6, [h_T_0, .int ln, h_T_2, h_T_3, h_T_4]))] s.heap.size = A at hD hF ⊢
  have hA : ∀ q : Nat, s.heap.size ≤ q → A q := fun q h => by rw [← hAe]; exact Or.inr h
  obtain ⟨H, hHe⟩ : ∃ H : Heap, H = s.heap := ⟨_, rfl⟩
  have hS : va_S A s.heap H [] := by rw [hHe]; exact va_S.rf
  have hP : va_P D vwCl [(h_T, .inr (6, [h_T_0, .int ln, h_T_2, h_T_3, h_T_4]))] H := by rw [hHe]; exact hP
  rw [← hHe]
  have hi_X3 : ∀ w ∈ wsX30, w ∈ wsX3_clear := by decide +kernel
  have hl := lv_entry [.ref h_T] (n := 1) (Nat.le_of_ble_eq_true rfl)
  rw [lg_entry_eq]
  generalize (lg_sl [.ref h_T] ++ List.replicate (1 - (lg_sl [.ref h_T]).length) Slot.unset).toArray = ls at hl ⊢
  have hl : lv_has ls 1 [(0, .ref h_T)] := hl
  have hM : F_X3_clear = 0 := rfl
  refine lv_aload_n hx hb dX3_clear_0 rfl (lv_at hl 0 rfl) ?_
  refine lv_iconst (v := 0) hx hb dX3_clear_1 (by decide) ?_
  refine va_put (D := D) (ci := 6) (v := .int 0) (ty := .int) (own := RX3) (C := RX3) (T := TX3) (N := 5) hx hb hts hi_X3 tyX3 tyX3_ok nmX3 hown hK hP hD hS 0 rfl rfl 1 (by decide) (hts (.fieldLink RX3 15 "CanalMaps$CommandText" "length" "I") (List.mem_of_getElem? (i := 1) (by decide +kernel))) (fun _ h9 => h9) rfl (by decide +kernel) rfl rfl (Nat.le_of_ble_eq_true rfl) dX3_clear_2 (fun H locs hP hD hS => ?_)
  have hP : va_P D vwCl [(h_T, .inr (6, [h_T_0, .int 0, h_T_2, h_T_3, h_T_4]))] H := hP
  have hD : va_D A [(h_T, .inr (6, [h_T_0, .int 0, h_T_2, h_T_3, h_T_4]))] := hD
  refine W.widen (k := 0) (n := 0) (Nat.le_of_ble_eq_true rfl) (Nat.le_of_ble_eq_true rfl) ?_
  exact W.vret hx hb hr (QG_.mk (fun _ => 0) (fun _ => 0) (fun _ => 0) [0] [] hP hD hK hS rfl trivial (by first | (rw [hM]; rfl) | rfl) (by decide) rfl) hS.2.2 dX3_clear_5
def F_X3_toStart  : Int32 := 0
set_option maxHeartbeats 4000000 in
set_option maxRecDepth 100000 in
theorem c_X3_toStart (l : Launch) (hl0 : l.stackTraces = false) (D : va_G) (ad : Nat → Nat) (sz : Nat) (h_T : Nat) (h_T_0 : Value) (h_T_1 : Value) (h_T_3 : Value) (h_T_4 : Value) (pl : Int32) : Met l yX3_toStart wsX3_toStart ({ frames := 0, cells := 0, slots := 0, locals := 0 }) (PC_ D ad [(h_T, .inr (6, [h_T_0, h_T_1, .int pl, h_T_3, h_T_4]))] [] sz [.ref h_T]) (QG_ D (fun q i => none) (fun q i => True) (fun q k i => [(h_T, .inr (6, [h_T_0, h_T_1, .int (F_X3_toStart), h_T_3, h_T_4]))]) (fun q k i => []) (va_A [(h_T, .inr (6, [h_T_0, h_T_1, .int pl, h_T_3, h_T_4]))] sz)) 0 0 (va_A [(h_T, .inr (6, [h_T_0, h_T_1, .int pl, h_T_3, h_T_4]))] sz) := by
  refine Met.ofW (cc := cX3_toStart) (maxL := 1) (ret := none) (by decide) rfl ?_
  intro p e s m args below meth c s₁ B hml hv
  obtain ⟨rfl, hsz, hP, hK, hD0, hF⟩ := hv
  have hx := B.exec
  have hb := B.bytes
  have hr := B.returns
  have hts := atoms_spec (ws := wsX3_toStart) B.pre
  have hown : s.vm.findClass RX3 = some m.cls := findClass_of_methodNamed B.named
  have hlocks := B.notSynchronized
  subst hsz
  have hD := hD0.self (sz := s.heap.size)
  generalize hAe : va_A [(h_T, .inr (6, [h_T_0, h_T_1, .int pl, h_T_3, h_T_4]))] s.heap.size = A at hD hF ⊢
  have hA : ∀ q : Nat, s.heap.size ≤ q → A q := fun q h => by rw [← hAe]; exact Or.inr h
  obtain ⟨H, hHe⟩ : ∃ H : Heap, H = s.heap := ⟨_, rfl⟩
  have hS : va_S A s.heap H [] := by rw [hHe]; exact va_S.rf
  have hP : va_P D vwCl [(h_T, .inr (6, [h_T_0, h_T_1, .int pl, h_T_3, h_T_4]))] H := by rw [hHe]; exact hP
  rw [← hHe]
  have hi_X3 : ∀ w ∈ wsX30, w ∈ wsX3_toStart := by decide +kernel
  have hl := lv_entry [.ref h_T] (n := 1) (Nat.le_of_ble_eq_true rfl)
  rw [lg_entry_eq]
  generalize (lg_sl [.ref h_T] ++ List.replicate (1 - (lg_sl [.ref h_T]).length) Slot.unset).toArray = ls at hl ⊢
  have hl : lv_has ls 1 [(0, .ref h_T)] := hl
  have hM : F_X3_toStart = 0 := rfl
  refine lv_aload_n hx hb dX3_toStart_0 rfl (lv_at hl 0 rfl) ?_
  refine lv_iconst (v := 0) hx hb dX3_toStart_1 (by decide) ?_
  refine va_put (D := D) (ci := 6) (v := .int 0) (ty := .int) (own := RX3) (C := RX3) (T := TX3) (N := 5) hx hb hts hi_X3 tyX3 tyX3_ok nmX3 hown hK hP hD hS 0 rfl rfl 2 (by decide) (hts (.fieldLink RX3 19 "CanalMaps$CommandText" "place" "I") (List.mem_of_getElem? (i := 1) (by decide +kernel))) (fun _ h9 => h9) rfl (by decide +kernel) rfl rfl (Nat.le_of_ble_eq_true rfl) dX3_toStart_2 (fun H locs hP hD hS => ?_)
  have hP : va_P D vwCl [(h_T, .inr (6, [h_T_0, h_T_1, .int 0, h_T_3, h_T_4]))] H := hP
  have hD : va_D A [(h_T, .inr (6, [h_T_0, h_T_1, .int 0, h_T_3, h_T_4]))] := hD
  refine W.widen (k := 0) (n := 0) (Nat.le_of_ble_eq_true rfl) (Nat.le_of_ble_eq_true rfl) ?_
  exact W.vret hx hb hr (QG_.mk (fun _ => 0) (fun _ => 0) (fun _ => 0) [0] [] hP hD hK hS rfl trivial (by first | (rw [hM]; rfl) | rfl) (by decide) rfl) hS.2.2 dX3_toStart_5
def F_X3_skipSign (pl : Int32) : Int32 := (pl + 1)
set_option maxHeartbeats 4000000 in
set_option maxRecDepth 100000 in
theorem c_X3_skipSign (l : Launch) (hl0 : l.stackTraces = false) (D : va_G) (ad : Nat → Nat) (sz : Nat) (h_T : Nat) (h_T_0 : Value) (h_T_1 : Value) (h_T_3 : Value) (h_T_4 : Value) (pl : Int32) : Met l yX3_skipSign wsX3_skipSign ({ frames := 0, cells := 0, slots := 0, locals := 0 }) (PC_ D ad [(h_T, .inr (6, [h_T_0, h_T_1, .int pl, h_T_3, h_T_4]))] [] sz [.ref h_T]) (QG_ D (fun q i => none) (fun q i => True) (fun q k i => [(h_T, .inr (6, [h_T_0, h_T_1, .int (F_X3_skipSign pl), h_T_3, h_T_4]))]) (fun q k i => []) (va_A [(h_T, .inr (6, [h_T_0, h_T_1, .int pl, h_T_3, h_T_4]))] sz)) 0 0 (va_A [(h_T, .inr (6, [h_T_0, h_T_1, .int pl, h_T_3, h_T_4]))] sz) := by
  refine Met.ofW (cc := cX3_skipSign) (maxL := 1) (ret := none) (by decide) rfl ?_
  intro p e s m args below meth c s₁ B hml hv
  obtain ⟨rfl, hsz, hP, hK, hD0, hF⟩ := hv
  have hx := B.exec
  have hb := B.bytes
  have hr := B.returns
  have hts := atoms_spec (ws := wsX3_skipSign) B.pre
  have hown : s.vm.findClass RX3 = some m.cls := findClass_of_methodNamed B.named
  have hlocks := B.notSynchronized
  subst hsz
  have hD := hD0.self (sz := s.heap.size)
  generalize hAe : va_A [(h_T, .inr (6, [h_T_0, h_T_1, .int pl, h_T_3, h_T_4]))] s.heap.size = A at hD hF ⊢
  have hA : ∀ q : Nat, s.heap.size ≤ q → A q := fun q h => by rw [← hAe]; exact Or.inr h
  obtain ⟨H, hHe⟩ : ∃ H : Heap, H = s.heap := ⟨_, rfl⟩
  have hS : va_S A s.heap H [] := by rw [hHe]; exact va_S.rf
  have hP : va_P D vwCl [(h_T, .inr (6, [h_T_0, h_T_1, .int pl, h_T_3, h_T_4]))] H := by rw [hHe]; exact hP
  rw [← hHe]
  have hi_X3 : ∀ w ∈ wsX30, w ∈ wsX3_skipSign := by decide +kernel
  have hl := lv_entry [.ref h_T] (n := 1) (Nat.le_of_ble_eq_true rfl)
  rw [lg_entry_eq]
  generalize (lg_sl [.ref h_T] ++ List.replicate (1 - (lg_sl [.ref h_T]).length) Slot.unset).toArray = ls at hl ⊢
  have hl : lv_has ls 1 [(0, .ref h_T)] := hl
  have hM : F_X3_skipSign pl = (pl + 1) := rfl
  refine lv_aload_n hx hb dX3_skipSign_0 rfl (lv_at hl 0 rfl) ?_
  refine lv_dup hx hb dX3_skipSign_1 rfl ?_
  refine va_get (D := D) (ci := 6) (v := .int pl) (own := RX3) (C := RX3) (T := TX3) (N := 5) hx hb hts hi_X3 hown hK hP 0 rfl rfl 2 (by decide) (hts (.fieldLink RX3 19 "CanalMaps$CommandText" "place" "I") (List.mem_of_getElem? (i := 1) (by decide +kernel))) (fun _ h9 => h9) rfl dX3_skipSign_2 ?_
  refine lv_iconst (v := 1) hx hb dX3_skipSign_5 (by decide) ?_
  refine lv_iadd hx hb dX3_skipSign_6 ?_
  refine va_put (D := D) (ci := 6) (v := .int (pl + 1)) (ty := .int) (own := RX3) (C := RX3) (T := TX3) (N := 5) hx hb hts hi_X3 tyX3 tyX3_ok nmX3 hown hK hP hD hS 0 rfl rfl 2 (by decide) (hts (.fieldLink RX3 19 "CanalMaps$CommandText" "place" "I") (List.mem_of_getElem? (i := 1) (by decide +kernel))) (fun _ h9 => h9) rfl (by decide +kernel) rfl rfl (Nat.le_of_ble_eq_true rfl) dX3_skipSign_7 (fun H locs hP hD hS => ?_)
  have hP : va_P D vwCl [(h_T, .inr (6, [h_T_0, h_T_1, .int (pl + 1), h_T_3, h_T_4]))] H := hP
  have hD : va_D A [(h_T, .inr (6, [h_T_0, h_T_1, .int (pl + 1), h_T_3, h_T_4]))] := hD
  refine W.widen (k := 0) (n := 0) (Nat.le_of_ble_eq_true rfl) (Nat.le_of_ble_eq_true rfl) ?_
  exact W.vret hx hb hr (QG_.mk (fun _ => 0) (fun _ => 0) (fun _ => 0) [0] [] hP hD hK hS rfl trivial (by first | (rw [hM]; rfl) | rfl) (by decide) rfl) hS.2.2 dX3_skipSign_10
def F_X3_number (nu : Nat → Int32) (a1 : Int32) : Int32 := (if a1 < 0 then 0 else (if 3 ≤ a1 then 0 else (nu (ix a1))))
set_option maxHeartbeats 4000000 in
set_option maxRecDepth 100000 in
theorem c_X3_number (l : Launch) (hl0 : l.stackTraces = false) (D : va_G) (ad : Nat → Nat) (sz : Nat) (h_nu : Nat) (h_T : Nat) (k_nu : ClassId) (h_T_0 : Value) (h_T_1 : Value) (h_T_2 : Value) (h_T_3 : Value) (nu : Nat → Int32) (a1 : Int32) : Met l yX3_number wsX3_number ({ frames := 0, cells := 0, slots := 0, locals := 0 }) (PR_ D ad [(h_nu, .inl (k_nu, 3, .inl nu)), (h_T, .inr (6, [h_T_0, h_T_1, h_T_2, h_T_3, .ref h_nu]))] [(k_nu, .int)] sz [.ref h_T, .int a1]) (QR_ (.int (F_X3_number nu a1)) (va_A [] sz)) 0 0 (va_A [] sz) := by
  refine Met.ofW (cc := cX3_number) (maxL := 2) (ret := (some .int)) (by decide) rfl ?_
  intro p e s m args below meth c s₁ B hml hv
  obtain ⟨rfl, hsz, hP, hK, hF⟩ := hv
  have hx := B.exec
  have hb := B.bytes
  have hr := B.returns
  have hts := atoms_spec (ws := wsX3_number) B.pre
  have hown : s.vm.findClass RX3 = some m.cls := findClass_of_methodNamed B.named
  have hlocks := B.notSynchronized
  subst hsz
  generalize hAe : va_A [] s.heap.size = A at hF ⊢
  have hA : ∀ q : Nat, s.heap.size ≤ q → A q := fun q h => by rw [← hAe]; exact Or.inr h
  obtain ⟨H, hHe⟩ : ∃ H : Heap, H = s.heap := ⟨_, rfl⟩
  have hS : va_S A s.heap H [] := by rw [hHe]; exact va_S.rf
  have hP : va_P D vwCl [(h_nu, .inl (k_nu, 3, .inl nu)), (h_T, .inr (6, [h_T_0, h_T_1, h_T_2, h_T_3, .ref h_nu]))] H := by rw [hHe]; exact hP
  rw [← hHe]
  have hi_X3 : ∀ w ∈ wsX30, w ∈ wsX3_number := by decide +kernel
  have hl := lv_entry [.ref h_T, .int a1] (n := 2) (Nat.le_of_ble_eq_true rfl)
  rw [lg_entry_eq]
  generalize (lg_sl [.ref h_T, .int a1] ++ List.replicate (2 - (lg_sl [.ref h_T, .int a1]).length) Slot.unset).toArray = ls at hl ⊢
  have hl : lv_has ls 2 [(0, .ref h_T), (1, .int a1)] := hl
  have hM : F_X3_number nu a1 = (if a1 < 0 then 0 else (if 3 ≤ a1 then 0 else (nu (ix a1)))) := rfl
  refine lv_iload_n hx hb dX3_number_0 rfl (lv_at hl 1 rfl) ?_
  refine lv_if_lt (tgt := 18) hx hb dX3_number_1 (by decide) (fun c_1 => ?_) (fun c_1 => ?_)
  · rw [if_pos c_1] at hM
    refine lv_iconst (v := 0) hx hb dX3_number_18 (by decide) ?_
    refine W.widen (k := 0) (n := 0) (Nat.le_of_ble_eq_true rfl) (Nat.le_of_ble_eq_true rfl) ?_
    exact W.iret (v := 0) hx hb hr (QR_.mk hS (by rw [hM])) hS.2.2 dX3_number_19
  · rw [if_neg c_1] at hM
    refine lv_iload_n hx hb dX3_number_4 rfl (lv_at hl 1 rfl) ?_
    refine lv_iconst (v := 3) hx hb dX3_number_5 (by decide) ?_
    refine lv_icmp_ge (tgt := 18) hx hb dX3_number_6 (by decide) (fun c_2 => ?_) (fun c_2 => ?_)
    · rw [if_pos c_2] at hM
      refine lv_iconst (v := 0) hx hb dX3_number_18 (by decide) ?_
      refine W.widen (k := 0) (n := 0) (Nat.le_of_ble_eq_true rfl) (Nat.le_of_ble_eq_true rfl) ?_
      exact W.iret (v := 0) hx hb hr (QR_.mk hS (by rw [hM])) hS.2.2 dX3_number_19
    · rw [if_neg c_2] at hM
      refine lv_aload_n hx hb dX3_number_9 rfl (lv_at hl 0 rfl) ?_
      refine va_get (D := D) (ci := 6) (v := .ref h_nu) (own := RX3) (C := RX3) (T := TX3) (N := 5) hx hb hts hi_X3 hown hK hP 1 rfl rfl 4 (by decide) (hts (.fieldLink RX3 31 "CanalMaps$CommandText" "numbers" "[I") (List.mem_of_getElem? (i := 1) (by decide +kernel))) (fun _ h9 => h9) rfl dX3_number_10 ?_
      refine lv_iload_n hx hb dX3_number_13 rfl (lv_at hl 1 rfl) ?_
      refine va_iald hx hb hK hP 0 0 rfl rfl (vinI (by have y0 := f_nlt c_1; have y1 := f_nle c_2; have e_0 : (0 : Int32).toInt = 0 := (by decide +kernel); have e_3 : (3 : Int32).toInt = 3 := (by decide +kernel); have b4 := Int32.toInt_lt (a1); have d4 := Int32.le_toInt (a1); omega) (by have y0 := f_nlt c_1; have y1 := f_nle c_2; have e_0 : (0 : Int32).toInt = 0 := (by decide +kernel); have e_3 : (3 : Int32).toInt = 3 := (by decide +kernel); have b4 := Int32.toInt_lt (a1); have d4 := Int32.le_toInt (a1); omega)) dX3_number_14 ?_
      refine kt_ (v := (nu (ix a1))) rfl ?_
      refine lv_goto (tgt := 19) hx hb dX3_number_15 (by decide) ?_
      refine W.widen (k := 0) (n := 0) (Nat.le_of_ble_eq_true rfl) (Nat.le_of_ble_eq_true rfl) ?_
      exact W.iret (v := (nu (ix a1))) hx hb hr (QR_.mk hS (by rw [hM])) hS.2.2 dX3_number_19
def B_X3_countCommands_4 (sg : Nat → Int32) (ln : Int32) (rc_4 : Int32 → Int32 → (Int32 × Int32)) (x4_1 : Int32) (x4_2 : Int32) : Int32 × Int32 := (if ln ≤ x4_2 then (x4_1, x4_2) else (if (sg (ix x4_2)) = 59 then (rc_4 (x4_1 + 1) (x4_2 + 1)) else (rc_4 x4_1 (x4_2 + 1))))
def L_X3_countCommands_4 (sg : Nat → Int32) (ln : Int32) : Nat → Int32 → Int32 → (Int32 × Int32)
  | 0 => fun x4_1 x4_2 => (x4_1, x4_2)
  | k + 1 => B_X3_countCommands_4 sg ln (L_X3_countCommands_4 sg ln k)
def K_X3_countCommands_4  : (Int32 × Int32) → (Int32)
  | (x4_1, x4_2) => x4_1
def F_X3_countCommands (sg : Nat → Int32) (ln : Int32) : Int32 := (K_X3_countCommands_4 (L_X3_countCommands_4 sg ln (((ln : Int32).toInt - (0 : Int32).toInt).toNat + 1) 1 0))
set_option maxHeartbeats 4000000 in
set_option maxRecDepth 100000 in
theorem c_X3_countCommands (l : Launch) (hl0 : l.stackTraces = false) (D : va_G) (ad : Nat → Nat) (sz : Nat) (h_sg : Nat) (h_T : Nat) (k_sg : ClassId) (h_T_2 : Value) (h_T_3 : Value) (h_T_4 : Value) (sg : Nat → Int32) (ln : Int32) (hy0 : 0 ≤ ln.toInt) (hy1 : ln.toInt ≤ 60) : Met l yX3_countCommands wsX3_countCommands ({ frames := 0, cells := 0, slots := 0, locals := 0 }) (PR_ D ad [(h_sg, .inl (k_sg, 60, .inl sg)), (h_T, .inr (6, [.ref h_sg, .int ln, h_T_2, h_T_3, h_T_4]))] [(k_sg, .char)] sz [.ref h_T]) (QR_ (.int (F_X3_countCommands sg ln)) (va_A [] sz)) 0 0 (va_A [] sz) := by
  refine Met.ofW (cc := cX3_countCommands) (maxL := 3) (ret := (some .int)) (by decide) rfl ?_
  intro p e s m args below meth c s₁ B hml hv
  obtain ⟨rfl, hsz, hP, hK, hF⟩ := hv
  have hx := B.exec
  have hb := B.bytes
  have hr := B.returns
  have hts := atoms_spec (ws := wsX3_countCommands) B.pre
  have hown : s.vm.findClass RX3 = some m.cls := findClass_of_methodNamed B.named
  have hlocks := B.notSynchronized
  subst hsz
  generalize hAe : va_A [] s.heap.size = A at hF ⊢
  have hA : ∀ q : Nat, s.heap.size ≤ q → A q := fun q h => by rw [← hAe]; exact Or.inr h
  obtain ⟨H, hHe⟩ : ∃ H : Heap, H = s.heap := ⟨_, rfl⟩
  have hS : va_S A s.heap H [] := by rw [hHe]; exact va_S.rf
  have hP : va_P D vwCl [(h_sg, .inl (k_sg, 60, .inl sg)), (h_T, .inr (6, [.ref h_sg, .int ln, h_T_2, h_T_3, h_T_4]))] H := by rw [hHe]; exact hP
  rw [← hHe]
  have hi_X3 : ∀ w ∈ wsX30, w ∈ wsX3_countCommands := by decide +kernel
  have hl := lv_entry [.ref h_T] (n := 3) (Nat.le_of_ble_eq_true rfl)
  rw [lg_entry_eq]
  generalize (lg_sl [.ref h_T] ++ List.replicate (3 - (lg_sl [.ref h_T]).length) Slot.unset).toArray = ls at hl ⊢
  have hl : lv_has ls 3 [(0, .ref h_T)] := hl
  have hM : F_X3_countCommands sg ln = (K_X3_countCommands_4 (L_X3_countCommands_4 sg ln (((ln : Int32).toInt - (0 : Int32).toInt).toNat + 1) 1 0)) := rfl
  refine lv_iconst (v := 1) hx hb dX3_countCommands_0 (by decide) ?_
  refine lv_istore_n (lv' := [(1, .int 1), (0, .ref h_T)]) hx hb dX3_countCommands_1 rfl hl (by decide) rfl (fun ls hl => ?_)
  refine lv_iconst (v := 0) hx hb dX3_countCommands_2 (by decide) ?_
  refine lv_istore_n (lv' := [(2, .int 0), (1, .int 1), (0, .ref h_T)]) hx hb dX3_countCommands_3 rfl hl (by decide) rfl (fun ls hl => ?_)
  refine lpW (τ := Int32 × Int32) (fun k t H locs ls c9 s9 => ((ln : Int32).toInt - (t.2 : Int32).toInt).toNat < k ∧ 0 ≤ (t.2 : Int32).toInt ∧ va_P D vwCl [(h_sg, .inl (k_sg, 60, .inl sg)), (h_T, .inr (6, [.ref h_sg, .int ln, h_T_2, h_T_3, h_T_4]))] H ∧ va_S A s.heap H locs ∧ lv_has ls 3 [(2, .int t.2), (1, .int t.1), (0, .ref h_T)] ∧ F_X3_countCommands sg ln = (K_X3_countCommands_4 (L_X3_countCommands_4 sg ln k t.1 t.2)) ∧ c9 = 0 ∧ s9 = 0) (fun t H locs ls c9 s9 h9 => absurd h9.1 (Nat.not_lt_zero _)) (fun k_1 ih t H locs ls c9 s9 hI => ?_) (((ln : Int32).toInt - (0 : Int32).toInt).toNat + 1) (1, 0) ⟨Nat.lt_succ_self _, (show 0 ≤ (0 : Int32).toInt from (by decide +kernel)), hP, hS, (by exact hl), hM, rfl, rfl⟩
  obtain ⟨x4_1, x4_2⟩ := t
  obtain ⟨hk_1, hz_1, hP, hS, hl, hM, hcs, hss⟩ := hI
  replace hcs := hcs.symm
  subst hcs
  replace hss := hss.symm
  subst hss
  have hP : va_P D vwCl [(h_sg, .inl (k_sg, 60, .inl sg)), (h_T, .inr (6, [.ref h_sg, .int ln, h_T_2, h_T_3, h_T_4]))] H := hP
  have hl : lv_has ls 3 [(2, .int x4_2), (1, .int x4_1), (0, .ref h_T)] := hl
  have hz_1 : 0 ≤ (x4_2 : Int32).toInt := hz_1
  have hk_1 : ((ln : Int32).toInt - (x4_2 : Int32).toInt).toNat < k_1 + 1 := hk_1
  have hM : F_X3_countCommands sg ln = (K_X3_countCommands_4 ((if ln ≤ x4_2 then (x4_1, x4_2) else (if (sg (ix x4_2)) = 59 then ((L_X3_countCommands_4 sg ln k_1) (x4_1 + 1) (x4_2 + 1)) else ((L_X3_countCommands_4 sg ln k_1) x4_1 (x4_2 + 1)))))) := hM
  have ih_1 := ih
  refine lv_iload_n hx hb dX3_countCommands_4 rfl (lv_at hl 0 rfl) ?_
  refine lv_aload_n hx hb dX3_countCommands_5 rfl (lv_at hl 2 rfl) ?_
  refine va_get (D := D) (ci := 6) (v := .int ln) (own := RX3) (C := RX3) (T := TX3) (N := 5) hx hb hts hi_X3 hown hK hP 1 rfl rfl 1 (by decide) (hts (.fieldLink RX3 15 "CanalMaps$CommandText" "length" "I") (List.mem_of_getElem? (i := 1) (by decide +kernel))) (fun _ h9 => h9) rfl dX3_countCommands_6 ?_
  refine lv_icmp_ge (tgt := 32) hx hb dX3_countCommands_9 (by decide) (fun c_2 => ?_) (fun c_2 => ?_)
  · rw [if_pos c_2] at hM
    have hM : F_X3_countCommands sg ln = x4_1 := hM
    refine lv_iload_n hx hb dX3_countCommands_32 rfl (lv_at hl 1 rfl) ?_
    refine W.widen (k := 0) (n := 0) (Nat.le_of_ble_eq_true rfl) (Nat.le_of_ble_eq_true rfl) ?_
    exact W.iret (v := x4_1) hx hb hr (QR_.mk hS (by rw [hM])) hS.2.2 dX3_countCommands_33
  · rw [if_neg c_2] at hM
    refine lv_aload_n hx hb dX3_countCommands_12 rfl (lv_at hl 2 rfl) ?_
    refine va_get (D := D) (ci := 6) (v := .ref h_sg) (own := RX3) (C := RX3) (T := TX3) (N := 5) hx hb hts hi_X3 hown hK hP 1 rfl rfl 0 (by decide) (hts (.fieldLink RX3 9 "CanalMaps$CommandText" "signs" "[C") (List.mem_of_getElem? (i := 2) (by decide +kernel))) (fun _ h9 => h9) rfl dX3_countCommands_13 ?_
    refine lv_iload_n hx hb dX3_countCommands_16 rfl (lv_at hl 0 rfl) ?_
    refine va_cald hx hb hK hP 0 0 rfl rfl (vinI (by have y0 := f_nle c_2; have z0 := hy0; have z1 := hy1; have z2 := hz_1; have b9 := Int32.toInt_lt (x4_2); have d9 := Int32.le_toInt (x4_2); omega) (by have y0 := f_nle c_2; have z0 := hy0; have z1 := hy1; have z2 := hz_1; have b9 := Int32.toInt_lt (x4_2); have d9 := Int32.le_toInt (x4_2); omega)) dX3_countCommands_17 ?_
    refine kt_ (v := (sg (ix x4_2))) rfl ?_
    refine lv_bipush (v := 59) hx hb dX3_countCommands_18 (by decide) ?_
    refine lv_icmp_ne (tgt := 26) hx hb dX3_countCommands_20 (by decide) (fun c_3 => ?_) (fun c_3 => ?_)
    · rw [if_neg c_3] at hM
      refine lv_iinc (v := (x4_2 + 1)) (lv' := [(2, .int (x4_2 + 1)), (1, .int x4_1), (0, .ref h_T)]) hx hb dX3_countCommands_26 hl (k := 0) rfl rfl (by decide) rfl (fun ls hl => ?_)
      refine lv_goto (tgt := 4) hx hb dX3_countCommands_29 (by decide) ?_
      exact ih_1 (x4_1, (x4_2 + 1)) _ _ _ _ _ ⟨lp_up hk_1 c_2, lp_up0 hz_1 c_2, hP, hS, lv_sub hl [0, 1, 2] rfl, hM, rfl, rfl⟩
    · rw [if_pos c_3] at hM
      refine lv_iinc (v := (x4_1 + 1)) (lv' := [(1, .int (x4_1 + 1)), (2, .int x4_2), (0, .ref h_T)]) hx hb dX3_countCommands_23 hl (k := 1) rfl rfl (by decide) rfl (fun ls hl => ?_)
      refine lv_iinc (v := (x4_2 + 1)) (lv' := [(2, .int (x4_2 + 1)), (1, .int (x4_1 + 1)), (0, .ref h_T)]) hx hb dX3_countCommands_26 hl (k := 1) rfl rfl (by decide) rfl (fun ls hl => ?_)
      refine lv_goto (tgt := 4) hx hb dX3_countCommands_29 (by decide) ?_
      exact ih_1 ((x4_1 + 1), (x4_2 + 1)) _ _ _ _ _ ⟨lp_up hk_1 c_2, lp_up0 hz_1 c_2, hP, hS, lv_sub hl [0, 1, 2] rfl, hM, rfl, rfl⟩
