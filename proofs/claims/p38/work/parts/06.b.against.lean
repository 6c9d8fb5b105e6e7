def F_X7_init_null (a1 : Int32) (a2 : Int32) : Int32 × Int32 := (a1, a2)
set_option maxHeartbeats 4000000 in
set_option maxRecDepth 100000 in
theorem c_X7_init_null (l : Launch) (hl0 : l.stackTraces = false) (D : va_G) (ad : Nat → Nat) (sz : Nat) (h_R : Nat) (h_R_2 : Value) (rr : Int32) (rd : Int32) (a1 : Int32) (a2 : Int32) : Met l yX7_init wsX7_init ({ frames := 1, cells := 0, slots := 0, locals := 40 }) (PC_ D ad [(h_R, .inr (10, [.int rr, .int rd, h_R_2]))] [] sz [.ref h_R, .int a1, .int a2, .null]) (QG_ D (fun q i => none) (fun q i => True) (fun q k i => [(h_R, .inr (10, [.int (F_X7_init_null a1 a2).1, .int (F_X7_init_null a1 a2).2, .null]))]) (fun q k i => []) (va_A [(h_R, .inr (10, [.int rr, .int rd, h_R_2]))] sz)) 0 0 (va_A [(h_R, .inr (10, [.int rr, .int rd, h_R_2]))] sz) := by
  refine Met.ofW (cc := cX7_init) (maxL := 4) (ret := none) (by decide) rfl ?_
  intro p e s m args below meth c s₁ B hml hv
  obtain ⟨rfl, hsz, hP, hK, hD0, hF⟩ := hv
  have hx := B.exec
  have hb := B.bytes
  have hr := B.returns
  have hts := atoms_spec (ws := wsX7_init) B.pre
  have hown : s.vm.findClass RX7 = some m.cls := findClass_of_methodNamed B.named
  have hlocks := B.notSynchronized
  have hin : meth.name = "<init>" := (name_of_methodNamed B.named B.method).1
  subst hsz
  have hD := hD0.self (sz := s.heap.size)
  generalize hAe : va_A [(h_R, .inr (10, [.int rr, .int rd, h_R_2]))] s.heap.size = A at hD hF ⊢
  have hA : ∀ q : Nat, s.heap.size ≤ q → A q := fun q h => by rw [← hAe]; exact Or.inr h
  obtain ⟨H, hHe⟩ : ∃ H : Heap, H = s.heap := ⟨_, rfl⟩
  have hS : va_S A s.heap H [] := by rw [hHe]; exact va_S.rf
  have hP : va_P D vwCl [(h_R, .inr (10, [.int rr, .int rd, h_R_2]))] H := by rw [hHe]; exact hP
  rw [← hHe]
  have hi_X7 : ∀ w ∈ wsX70, w ∈ wsX7_init := by decide +kernel
  have hl := lv_entry [.ref h_R, .int a1, .int a2, .null] (n := 4) (Nat.le_of_ble_eq_true rfl)
  rw [lg_entry_eq]
  generalize (lg_sl [.ref h_R, .int a1, .int a2, .null] ++ List.replicate (4 - (lg_sl [.ref h_R, .int a1, .int a2, .null]).length) Slot.unset).toArray = ls at hl ⊢
  have hl : lv_has ls 4 [(0, .ref h_R), (1, .int a1), (2, .int a2), (3, .null)] := hl
  have hM : F_X7_init_null a1 a2 = (a1, a2) := rfl
  refine lv_aload_n hx hb dX7_init_0 rfl (lv_at hl 0 rfl) ?_
  refine W.objInit hx hb hown (hts (.methodLink RX7 1 objectInit) (List.mem_of_getElem? (i := 1) (by decide +kernel))) (hts (.instanceMethod objectInit) (List.mem_of_getElem? (i := 2) (by decide +kernel))) (hts (.code objectInit ⟨#[0xb1]⟩ 1 none) (List.mem_of_getElem? (i := 3) (by decide +kernel))) rfl (by rw [hml]; exact hl.1) rfl dX7_init_1 (Nat.le_of_ble_eq_true rfl) (Nat.le_of_ble_eq_true rfl) ?_
  refine W.eq (g2 := F0 m 4 ls []) rfl ?_
  refine lv_aload_n hx hb dX7_init_4 rfl (lv_at hl 0 rfl) ?_
  refine lv_iload_n hx hb dX7_init_5 rfl (lv_at hl 1 rfl) ?_
  refine va_putF (D := D) (ci := 10) (v := .int a1) (ty := .int) (own := RX7) (C := RX7) (T := TX7) (N := 3) hx hb hts hi_X7 tyX7 tyX7_ok nmX7 hown hK hP hD hS 0 rfl rfl 0 (by decide) (hts (.fieldLink RX7 7 "CanalMaps$Refusal" "reason" "I") (List.mem_of_getElem? (i := 4) (by decide +kernel))) (fun _ h9 => h9) rfl hin rfl (by decide +kernel) rfl rfl (Nat.le_of_ble_eq_true rfl) dX7_init_6 (fun H locs hP hD hS => ?_)
  have hP : va_P D vwCl [(h_R, .inr (10, [.int a1, .int rd, h_R_2]))] H := hP
  have hD : va_D A [(h_R, .inr (10, [.int a1, .int rd, h_R_2]))] := hD
  refine lv_aload_n hx hb dX7_init_9 rfl (lv_at hl 0 rfl) ?_
  refine lv_iload_n hx hb dX7_init_10 rfl (lv_at hl 2 rfl) ?_
  refine va_putF (D := D) (ci := 10) (v := .int a2) (ty := .int) (own := RX7) (C := RX7) (T := TX7) (N := 3) hx hb hts hi_X7 tyX7 tyX7_ok nmX7 hown hK hP hD hS 0 rfl rfl 1 (by decide) (hts (.fieldLink RX7 13 "CanalMaps$Refusal" "detail" "I") (List.mem_of_getElem? (i := 5) (by decide +kernel))) (fun _ h9 => h9) rfl hin rfl (by decide +kernel) rfl rfl (Nat.le_of_ble_eq_true rfl) dX7_init_11 (fun H locs hP hD hS => ?_)
  have hP : va_P D vwCl [(h_R, .inr (10, [.int a1, .int a2, h_R_2]))] H := hP
  have hD : va_D A [(h_R, .inr (10, [.int a1, .int a2, h_R_2]))] := hD
  refine lv_aload_n hx hb dX7_init_14 rfl (lv_at hl 0 rfl) ?_
  refine lv_aload_nN hx hb dX7_init_15 rfl (lv_at hl 3 rfl) ?_
  refine va_putF (D := D) (ci := 10) (v := .null) (ty := tyX7 2) (own := RX7) (C := RX7) (T := TX7) (N := 3) hx hb hts hi_X7 tyX7 tyX7_ok nmX7 hown hK hP hD hS 0 rfl rfl 2 (by decide) (hts (.fieldLink RX7 16 "CanalMaps$Refusal" "cause" "LCanalMaps$Refusal;") (List.mem_of_getElem? (i := 6) (by decide +kernel))) (fun _ h9 => h9) rfl hin rfl (by decide +kernel) rfl rfl (Nat.le_of_ble_eq_true rfl) dX7_init_16 (fun H locs hP hD hS => ?_)
  have hP : va_P D vwCl [(h_R, .inr (10, [.int a1, .int a2, .null]))] H := hP
  have hD : va_D A [(h_R, .inr (10, [.int a1, .int a2, .null]))] := hD
  refine W.widen (k := 0) (n := 0) (Nat.le_of_ble_eq_true rfl) (Nat.le_of_ble_eq_true rfl) ?_
  exact W.vret hx hb hr (QG_.mk (fun _ => 0) (fun _ => 0) (fun _ => 0) [0] [] hP hD hK hS rfl trivial (by first | (rw [hM]; rfl) | rfl) (by decide) rfl) hS.2.2 dX7_init_19
def F_X8_because (a1 : Int32) (a2 : Int32) : Nat × Int32 × Int32 := (1, (F_X7_init_null a1 a2).1, (F_X7_init_null a1 a2).2)
set_option maxHeartbeats 4000000 in
set_option maxRecDepth 100000 in
theorem c_X8_because (l : Launch) (hl0 : l.stackTraces = false) (D : va_G) (ad : Nat → Nat) (sz : Nat) (a1 : Int32) (a2 : Int32) : Met l yX8_because wsX8_because ({ frames := 2, cells := 1, slots := 3, locals := 65 }) (PC_ D ad [] [] sz [.int a1, .int a2]) (QG_ D (fun q i => some (rfV (F_X8_because a1 a2).1 (q 0))) (fun q i => (F_X8_because a1 a2).1 = 0 ∨ (F_X8_because a1 a2).1 = 1) (fun q k i => ([] ++ rfW (F_X8_because a1 a2).1 (q 0) ((F_X8_because a1 a2).2.1) ((F_X8_because a1 a2).2.2))) (fun q k i => []) (va_A [] sz)) 1 3 (va_A [] sz) := by
  refine Met.ofW (cc := cX8_because) (maxL := 2) (ret := (some (.object "CanalMaps$Refusal"))) (by decide) rfl ?_
  intro p e s m args below meth c s₁ B hml hv
  obtain ⟨rfl, hsz, hP, hK, hD0, hF⟩ := hv
  have hx := B.exec
  have hb := B.bytes
  have hr := B.returns
  have hts := atoms_spec (ws := wsX8_because) B.pre
  have hown : s.vm.findClass RX8 = some m.cls := findClass_of_methodNamed B.named
  have hlocks := B.notSynchronized
  subst hsz
  have hD := hD0.self (sz := s.heap.size)
  generalize hAe : va_A [] s.heap.size = A at hD hF ⊢
  have hA : ∀ q : Nat, s.heap.size ≤ q → A q := fun q h => by rw [← hAe]; exact Or.inr h
  obtain ⟨H, hHe⟩ : ∃ H : Heap, H = s.heap := ⟨_, rfl⟩
  have hS : va_S A s.heap H [] := by rw [hHe]; exact va_S.rf
  have hP : va_P D vwCl [] H := by rw [hHe]; exact hP
  rw [← hHe]
  have hi_X7 : ∀ w ∈ wsX70, w ∈ wsX8_because := by decide +kernel
  have hl := lv_entry [.int a1, .int a2] (n := 2) (Nat.le_of_ble_eq_true rfl)
  rw [lg_entry_eq]
  generalize (lg_sl [.int a1, .int a2] ++ List.replicate (2 - (lg_sl [.int a1, .int a2]).length) Slot.unset).toArray = ls at hl ⊢
  have hl : lv_has ls 2 [(0, .int a1), (1, .int a2)] := hl
  have hM : F_X8_because a1 a2 = (1, (F_X7_init_null a1 a2).1, (F_X7_init_null a1 a2).2) := rfl
  refine va_new (ci := 10) (fs := [.int 0, .int 0, .null]) (own := RX8) (C := RX7) (T := TX7) (N := 3) hx hb hts hi_X7 tyX7 tyX7_ok hown (hts (.classLink RX8 144 RX7) (List.mem_of_getElem? (i := 1) (by decide +kernel))) (hts (.instantiable RX7 3) (List.mem_of_getElem? (i := 2) (by decide +kernel))) (hts (.initialized RX7) (List.mem_of_getElem? (i := 3) (by decide +kernel))) hK hP hD hS hA rfl (fun j hj => by rcases (show j = 0 ∨ j = 1 ∨ j = 2 by omega) with rfl | rfl | rfl <;> rfl) (Nat.le_of_ble_eq_true rfl) (Nat.le_of_ble_eq_true rfl) dX8_because_0 (fun q_p0 H hP hD hS => ?_)
  have hP : va_P D vwCl [(q_p0, .inr (10, [.int 0, .int 0, .null]))] H := hP
  have hD : va_D A [(q_p0, .inr (10, [.int 0, .int 0, .null]))] := hD
  refine lv_dup hx hb dX8_because_3 rfl ?_
  refine lv_iload_n hx hb dX8_because_4 rfl (lv_at hl 0 rfl) ?_
  refine lv_iload_n hx hb dX8_because_5 rfl (lv_at hl 1 rfl) ?_
  refine lv_null hx hb dX8_because_6 ?_
  obtain ⟨y9, hy9⟩ : ∃ y9, (F_X7_init_null a1 a2) = y9 := ⟨_, rfl⟩
  have hcon := (c_X7_init_null l hl0 D ad H.size q_p0 (.null) 0 0 a1 a2)
  rw [hy9] at hcon
  refine kc_ (wc := [(q_p0, .inr (10, [.int 0, .int 0, .null]))]) (wr := []) (va_runI (As := [.int a1, .int a2, .null]) (rest := [.ref q_p0]) ⟨hx, hb, hml, hown, hts⟩ hcon (cwI 3 hts gX8_because_X7_init rfl rfl rfl (hts (.initialized RX7) (List.mem_of_getElem? (i := 3) (by decide +kernel))) (hts (.methodLink RX8 146 yX7_init) (List.mem_of_getElem? (i := 4) (by decide +kernel))) (hts (.instanceMethod yX7_init) (List.mem_of_getElem? (i := 5) (by decide +kernel))) rfl (by decide +kernel) ⟨Nat.le_of_ble_eq_true rfl, Nat.le_of_ble_eq_true rfl⟩) ⟨PC_.blind, PC_.pre hF hK hP hD hS hA [0] [] rfl (by decide) rfl⟩ rfl rfl hl.1 rfl (lv_room (Nat.le_of_ble_eq_true rfl)) dX8_because_7 ⟨(Nat.le_of_ble_eq_true rfl), (Nat.le_of_ble_eq_true rfl)⟩) hK hP hD hS hA [0] [] [] rfl rfl (by decide) (by decide) rfl (fun qa_1 ka_1 ia H locs hpo hP hD hK hS => ?_)
  subst hy9
  have hP : va_P D vwCl [(q_p0, .inr (10, [.int (F_X7_init_null a1 a2).1, .int (F_X7_init_null a1 a2).2, .null]))] H := hP
  have hD : va_D A [(q_p0, .inr (10, [.int (F_X7_init_null a1 a2).1, .int (F_X7_init_null a1 a2).2, .null]))] := hD
  have hK : va_K D vwCl [] s := hK
  refine W.eq (g2 := F0 m 10 ls [.ref q_p0]) rfl ?_
  refine W.widen (k := 1) (n := 3) (Nat.le_of_ble_eq_true rfl) (Nat.le_of_ble_eq_true rfl) ?_
  exact W.aret (v := .ref q_p0) hx hb hr (Or.inl ⟨_, rfl⟩) (Or.inr ⟨_, rfl⟩) (QG_.mk (fun n => [q_p0].getD n 0) (fun _ => 0) (fun _ => 0) [0] [] hP hD hK hS (by rw [hM]; rfl) (by rw [hM]; exact Or.inr rfl) (by first | (rw [hM]; rfl) | rfl) (by decide) rfl) hS.2.2 dX8_because_10
def F_X8_againstPair (n : Int32) (a1 : Int32) (a2 : Int32) : Nat × Int32 × Int32 := (if (F_X8_has n a1) = 0 then (if (F_X8_because 3 a1).1 = 0 then (0, 0, 0) else (1, (F_X8_because 3 a1).2.1, (F_X8_because 3 a1).2.2)) else (if (F_X8_has n a2) = 0 then (if (F_X8_because 3 a2).1 = 0 then (0, 0, 0) else (1, (F_X8_because 3 a2).2.1, (F_X8_because 3 a2).2.2)) else (if a1 = a2 then (if (F_X8_because 4 a1).1 = 0 then (0, 0, 0) else (1, (F_X8_because 4 a1).2.1, (F_X8_because 4 a1).2.2)) else (0, 0, 0))))
theorem R_X8_againstPair {n a b : Int32} (h : (F_X8_againstPair n a b).1 = 0) : 0 ≤ a.toInt ∧ a.toInt < n.toInt ∧ 0 ≤ b.toInt ∧ b.toInt < n.toInt ∧ a ≠ b := by
  unfold F_X8_againstPair at h
  by_cases c1 : F_X8_has n a = 0
  · rw [if_pos c1] at h; simp [F_X8_because] at h
  rw [if_neg c1] at h
  by_cases c2 : F_X8_has n b = 0
  · rw [if_pos c2] at h; simp [F_X8_because] at h
  rw [if_neg c2] at h
  by_cases c3 : a = b
  · rw [if_pos c3] at h; simp [F_X8_because] at h
  have h1 := R_X8_has c1
  have h2 := R_X8_has c2
  exact ⟨h1.1, h1.2, h2.1, h2.2, c3⟩
set_option maxHeartbeats 4000000 in
set_option maxRecDepth 100000 in
theorem c_X8_againstPair (l : Launch) (hl0 : l.stackTraces = false) (D : va_G) (ad : Nat → Nat) (sz : Nat) (h_S : Nat) (h_S_0 : Value) (h_S_1 : Value) (h_S_2 : Value) (h_S_3 : Value) (h_S_4 : Value) (h_S_6 : Value) (h_S_7 : Value) (h_S_8 : Value) (h_S_9 : Value) (n : Int32) (a1 : Int32) (a2 : Int32) (hy0 : n.toInt ≤ 6) : Met l yX8_againstPair wsX8_againstPair ({ frames := 3, cells := 1, slots := 3, locals := 88 }) (PC_ D ad [(h_S, .inr (11, [h_S_0, h_S_1, h_S_2, h_S_3, h_S_4, .int n, h_S_6, h_S_7, h_S_8, h_S_9]))] [] sz [.ref h_S, .int a1, .int a2]) (QG_ D (fun q i => some (rfV (F_X8_againstPair n a1 a2).1 (q 0))) (fun q i => (F_X8_againstPair n a1 a2).1 = 0 ∨ (F_X8_againstPair n a1 a2).1 = 1) (fun q k i => ([(h_S, .inr (11, [h_S_0, h_S_1, h_S_2, h_S_3, h_S_4, .int n, h_S_6, h_S_7, h_S_8, h_S_9]))] ++ rfW (F_X8_againstPair n a1 a2).1 (q 0) ((F_X8_againstPair n a1 a2).2.1) ((F_X8_againstPair n a1 a2).2.2))) (fun q k i => []) (va_A [(h_S, .inr (11, [h_S_0, h_S_1, h_S_2, h_S_3, h_S_4, .int n, h_S_6, h_S_7, h_S_8, h_S_9]))] sz)) 1 3 (va_A [(h_S, .inr (11, [h_S_0, h_S_1, h_S_2, h_S_3, h_S_4, .int n, h_S_6, h_S_7, h_S_8, h_S_9]))] sz) := by
  refine Met.ofW (cc := cX8_againstPair) (maxL := 3) (ret := (some (.object "CanalMaps$Refusal"))) (by decide) rfl ?_
  intro p e s m args below meth c s₁ B hml hv
  obtain ⟨rfl, hsz, hP, hK, hD0, hF⟩ := hv
  have hx := B.exec
  have hb := B.bytes
  have hr := B.returns
  have hts := atoms_spec (ws := wsX8_againstPair) B.pre
  have hown : s.vm.findClass RX8 = some m.cls := findClass_of_methodNamed B.named
  have hlocks := B.notSynchronized
  subst hsz
  have hD := hD0.self (sz := s.heap.size)
  generalize hAe : va_A [(h_S, .inr (11, [h_S_0, h_S_1, h_S_2, h_S_3, h_S_4, .int n, h_S_6, h_S_7, h_S_8, h_S_9]))] s.heap.size = A at hD hF ⊢
  have hA : ∀ q : Nat, s.heap.size ≤ q → A q := fun q h => by rw [← hAe]; exact Or.inr h
  obtain ⟨H, hHe⟩ : ∃ H : Heap, H = s.heap := ⟨_, rfl⟩
  have hS : va_S A s.heap H [] := by rw [hHe]; exact va_S.rf
  have hP : va_P D vwCl [(h_S, .inr (11, [h_S_0, h_S_1, h_S_2, h_S_3, h_S_4, .int n, h_S_6, h_S_7, h_S_8, h_S_9]))] H := by rw [hHe]; exact hP
  rw [← hHe]
  have hl := lv_entry [.ref h_S, .int a1, .int a2] (n := 3) (Nat.le_of_ble_eq_true rfl)
  rw [lg_entry_eq]
  generalize (lg_sl [.ref h_S, .int a1, .int a2] ++ List.replicate (3 - (lg_sl [.ref h_S, .int a1, .int a2]).length) Slot.unset).toArray = ls at hl ⊢
  have hl : lv_has ls 3 [(0, .ref h_S), (1, .int a1), (2, .int a2)] := hl
  have hM : F_X8_againstPair n a1 a2 = (if (F_X8_has n a1) = 0 then (if (F_X8_because 3 a1).1 = 0 then (0, 0, 0) else (1, (F_X8_because 3 a1).2.1, (F_X8_because 3 a1).2.2)) else (if (F_X8_has n a2) = 0 then (if (F_X8_because 3 a2).1 = 0 then (0, 0, 0) else (1, (F_X8_because 3 a2).2.1, (F_X8_because 3 a2).2.2)) else (if a1 = a2 then (if (F_X8_because 4 a1).1 = 0 then (0, 0, 0) else (1, (F_X8_because 4 a1).2.1, (F_X8_because 4 a1).2.2)) else (0, 0, 0)))) := rfl
  refine lv_aload_n hx hb dX8_againstPair_0 rfl (lv_at hl 0 rfl) ?_
  refine lv_iload_n hx hb dX8_againstPair_1 rfl (lv_at hl 1 rfl) ?_
  obtain ⟨y9, hy9⟩ : ∃ y9, (F_X8_has n a1) = y9 := ⟨_, rfl⟩
  have hcon := (c_X8_has l hl0 D ad H.size h_S (h_S_0) (h_S_1) (h_S_2) (h_S_3) (h_S_4) (h_S_6) (h_S_7) (h_S_8) (h_S_9) n a1)
  rw [hy9] at hcon
  refine kr_ (va_runV (As := [.int a1]) (rest := []) ⟨hx, hb, hml, hown, hts⟩ hcon (cwV 1 hts gX8_againstPair_X8_has rfl rfl rfl (by decide +kernel) ⟨Nat.le_of_ble_eq_true rfl, Nat.le_of_ble_eq_true rfl⟩) ⟨PR_.blind, va_recv hK hP (ci := 11) (q0 := 0) rfl rfl, PR_.pre hF hK (hP.sub [0] rfl) hS hA [] rfl⟩ rfl rfl hl.1 rfl (lv_room (Nat.le_of_ble_eq_true rfl)) dX8_againstPair_2 ⟨(Nat.le_of_ble_eq_true rfl), (Nat.le_of_ble_eq_true rfl)⟩) hP hS hA (fun H locs hP hS => ?_)
  subst hy9
  refine W.eq (g2 := F0 m 5 ls [.int (F_X8_has n a1)]) rfl ?_
  refine lv_if_ne (tgt := 14) hx hb dX8_againstPair_5 (by decide) (fun c_2 => ?_) (fun c_2 => ?_)
  · rw [if_neg c_2] at hM
    refine lv_aload_n hx hb dX8_againstPair_14 rfl (lv_at hl 0 rfl) ?_
    refine lv_iload_n hx hb dX8_againstPair_15 rfl (lv_at hl 2 rfl) ?_
    obtain ⟨y9, hy9⟩ : ∃ y9, (F_X8_has n a2) = y9 := ⟨_, rfl⟩
    have hcon := (c_X8_has l hl0 D ad H.size h_S (h_S_0) (h_S_1) (h_S_2) (h_S_3) (h_S_4) (h_S_6) (h_S_7) (h_S_8) (h_S_9) n a2)
    rw [hy9] at hcon
    refine kr_ (va_runV (As := [.int a2]) (rest := []) ⟨hx, hb, hml, hown, hts⟩ hcon (cwV 1 hts gX8_againstPair_X8_has rfl rfl rfl (by decide +kernel) ⟨Nat.le_of_ble_eq_true rfl, Nat.le_of_ble_eq_true rfl⟩) ⟨PR_.blind, va_recv hK hP (ci := 11) (q0 := 0) rfl rfl, PR_.pre hF hK (hP.sub [0] rfl) hS hA [] rfl⟩ rfl rfl hl.1 rfl (lv_room (Nat.le_of_ble_eq_true rfl)) dX8_againstPair_16 ⟨(Nat.le_of_ble_eq_true rfl), (Nat.le_of_ble_eq_true rfl)⟩) hP hS hA (fun H locs hP hS => ?_)
    subst hy9
    refine W.eq (g2 := F0 m 19 ls [.int (F_X8_has n a2)]) rfl ?_
    refine lv_if_ne (tgt := 28) hx hb dX8_againstPair_19 (by decide) (fun c_4 => ?_) (fun c_4 => ?_)
    · rw [if_neg c_4] at hM
      refine lv_iload_n hx hb dX8_againstPair_28 rfl (lv_at hl 1 rfl) ?_
      refine lv_iload_n hx hb dX8_againstPair_29 rfl (lv_at hl 2 rfl) ?_
      refine lv_icmp_ne (tgt := 41) hx hb dX8_againstPair_30 (by decide) (fun c_5 => ?_) (fun c_5 => ?_)
      · rw [if_neg c_5] at hM
        refine lv_null hx hb dX8_againstPair_41 ?_
        refine W.widen (k := 1) (n := 3) (Nat.le_of_ble_eq_true rfl) (Nat.le_of_ble_eq_true rfl) ?_
        exact W.aret (v := .null) hx hb hr (Or.inl ⟨_, rfl⟩) (Or.inl rfl) (QG_.mk (fun n => [0].getD n 0) (fun _ => 0) (fun _ => 0) [0] [] hP hD hK hS (by rw [hM]; rfl) (by rw [hM]; exact Or.inl rfl) (by first | (rw [hM]; rfl) | rfl) (by decide) rfl) hS.2.2 dX8_againstPair_42
      · rw [if_pos c_5] at hM
        refine lv_iconst (v := 4) hx hb dX8_againstPair_33 (by decide) ?_
        refine lv_iload_n hx hb dX8_againstPair_34 rfl (lv_at hl 1 rfl) ?_
        refine kc_ (wc := []) (wr := [(h_S, .inr (11, [h_S_0, h_S_1, h_S_2, h_S_3, h_S_4, .int n, h_S_6, h_S_7, h_S_8, h_S_9]))]) (va_runS (As := [.int 4, .int a1]) (rest := []) ⟨hx, hb, hml, hown, hts⟩ (c_X8_because l hl0 D ad H.size 4 a1) (va_cwS 2 hts gX8_againstPair_X8_because rfl rfl rfl (by decide +kernel) ⟨Nat.le_of_ble_eq_true rfl, Nat.le_of_ble_eq_true rfl⟩) ⟨PC_.blind, PC_.pre hF hK hP hD hS hA [] [] rfl (by decide) rfl⟩ rfl rfl hl.1 rfl (lv_room (Nat.le_of_ble_eq_true rfl)) dX8_againstPair_35 ⟨(Nat.le_of_ble_eq_true rfl), (Nat.le_of_ble_eq_true rfl)⟩) hK hP hD hS hA [] [0] [] rfl rfl (by decide) (by decide) rfl (fun qa_6 ka_6 ia H locs hpo hP hD hK hS => ?_)
        rcases hpo with c_7 | c_7
        · rw [c_7] at hP hD
          rw [c_7]
          have hP : va_P D vwCl [(h_S, .inr (11, [h_S_0, h_S_1, h_S_2, h_S_3, h_S_4, .int n, h_S_6, h_S_7, h_S_8, h_S_9]))] H := hP
          have hD : va_D A [(h_S, .inr (11, [h_S_0, h_S_1, h_S_2, h_S_3, h_S_4, .int n, h_S_6, h_S_7, h_S_8, h_S_9]))] := hD
          have hK : va_K D vwCl [] s := hK
          rw [if_pos c_7] at hM
          refine W.eq (g2 := F0 m 38 ls [.null]) rfl ?_
          refine lv_goto (tgt := 42) hx hb dX8_againstPair_38 (by decide) ?_
          refine W.widen (k := 1) (n := 3) (Nat.le_of_ble_eq_true rfl) (Nat.le_of_ble_eq_true rfl) ?_
          exact W.aret (v := .null) hx hb hr (Or.inl ⟨_, rfl⟩) (Or.inl rfl) (QG_.mk (fun n => [0].getD n 0) (fun _ => 0) (fun _ => 0) [0] [] hP hD hK hS (by rw [hM]; rfl) (by rw [hM]; exact Or.inl rfl) (by first | (rw [hM]; rfl) | rfl) (by decide) rfl) hS.2.2 dX8_againstPair_42
        · rw [c_7] at hP hD
          rw [c_7]
          have hP : va_P D vwCl [(h_S, .inr (11, [h_S_0, h_S_1, h_S_2, h_S_3, h_S_4, .int n, h_S_6, h_S_7, h_S_8, h_S_9])), ((qa_6 0), .inr (10, [.int (F_X8_because 4 a1).2.1, .int (F_X8_because 4 a1).2.2, .null]))] H := hP
          have hD : va_D A [(h_S, .inr (11, [h_S_0, h_S_1, h_S_2, h_S_3, h_S_4, .int n, h_S_6, h_S_7, h_S_8, h_S_9])), ((qa_6 0), .inr (10, [.int (F_X8_because 4 a1).2.1, .int (F_X8_because 4 a1).2.2, .null]))] := hD
          have hK : va_K D vwCl [] s := hK
          rw [if_neg (show ¬ (F_X8_because 4 a1).1 = 0 from by rw [c_7]; decide)] at hM
          refine W.eq (g2 := F0 m 38 ls [.ref (qa_6 0)]) rfl ?_
          refine lv_goto (tgt := 42) hx hb dX8_againstPair_38 (by decide) ?_
          refine W.widen (k := 1) (n := 3) (Nat.le_of_ble_eq_true rfl) (Nat.le_of_ble_eq_true rfl) ?_
          exact W.aret (v := .ref (qa_6 0)) hx hb hr (Or.inl ⟨_, rfl⟩) (Or.inr ⟨_, rfl⟩) (QG_.mk (fun n => [(qa_6 0)].getD n 0) (fun _ => 0) (fun _ => 0) [0, 1] [] hP hD hK hS (by rw [hM]; rfl) (by rw [hM]; exact Or.inr rfl) (by first | (rw [hM]; rfl) | rfl) (by decide) rfl) hS.2.2 dX8_againstPair_42
    · rw [if_pos c_4] at hM
      refine lv_iconst (v := 3) hx hb dX8_againstPair_22 (by decide) ?_
      refine lv_iload_n hx hb dX8_againstPair_23 rfl (lv_at hl 2 rfl) ?_
      refine kc_ (wc := []) (wr := [(h_S, .inr (11, [h_S_0, h_S_1, h_S_2, h_S_3, h_S_4, .int n, h_S_6, h_S_7, h_S_8, h_S_9]))]) (va_runS (As := [.int 3, .int a2]) (rest := []) ⟨hx, hb, hml, hown, hts⟩ (c_X8_because l hl0 D ad H.size 3 a2) (va_cwS 2 hts gX8_againstPair_X8_because rfl rfl rfl (by decide +kernel) ⟨Nat.le_of_ble_eq_true rfl, Nat.le_of_ble_eq_true rfl⟩) ⟨PC_.blind, PC_.pre hF hK hP hD hS hA [] [] rfl (by decide) rfl⟩ rfl rfl hl.1 rfl (lv_room (Nat.le_of_ble_eq_true rfl)) dX8_againstPair_24 ⟨(Nat.le_of_ble_eq_true rfl), (Nat.le_of_ble_eq_true rfl)⟩) hK hP hD hS hA [] [0] [] rfl rfl (by decide) (by decide) rfl (fun qa_8 ka_8 ia H locs hpo hP hD hK hS => ?_)
      rcases hpo with c_9 | c_9
      · rw [c_9] at hP hD
        rw [c_9]
        have hP : va_P D vwCl [(h_S, .inr (11, [h_S_0, h_S_1, h_S_2, h_S_3, h_S_4, .int n, h_S_6, h_S_7, h_S_8, h_S_9]))] H := hP
        have hD : va_D A [(h_S, .inr (11, [h_S_0, h_S_1, h_S_2, h_S_3, h_S_4, .int n, h_S_6, h_S_7, h_S_8, h_S_9]))] := hD
        have hK : va_K D vwCl [] s := hK
        rw [if_pos c_9] at hM
        refine W.eq (g2 := F0 m 27 ls [.null]) rfl ?_
        refine W.widen (k := 1) (n := 3) (Nat.le_of_ble_eq_true rfl) (Nat.le_of_ble_eq_true rfl) ?_
        exact W.aret (v := .null) hx hb hr (Or.inl ⟨_, rfl⟩) (Or.inl rfl) (QG_.mk (fun n => [0].getD n 0) (fun _ => 0) (fun _ => 0) [0] [] hP hD hK hS (by rw [hM]; rfl) (by rw [hM]; exact Or.inl rfl) (by first | (rw [hM]; rfl) | rfl) (by decide) rfl) hS.2.2 dX8_againstPair_27
      · rw [c_9] at hP hD
        rw [c_9]
        have hP : va_P D vwCl [(h_S, .inr (11, [h_S_0, h_S_1, h_S_2, h_S_3, h_S_4, .int n, h_S_6, h_S_7, h_S_8, h_S_9])), ((qa_8 0), .inr (10, [.int (F_X8_because 3 a2).2.1, .int (F_X8_because 3 a2).2.2, .null]))] H := hP
        have hD : va_D A [(h_S, .inr (11, [h_S_0, h_S_1, h_S_2, h_S_3, h_S_4, .int n, h_S_6, h_S_7, h_S_8, h_S_9])), ((qa_8 0), .inr (10, [.int (F_X8_because 3 a2).2.1, .int (F_X8_because 3 a2).2.2, .null]))] := hD
        have hK : va_K D vwCl [] s := hK
        rw [if_neg (show ¬ (F_X8_because 3 a2).1 = 0 from by rw [c_9]; decide)] at hM
        refine W.eq (g2 := F0 m 27 ls [.ref (qa_8 0)]) rfl ?_
        refine W.widen (k := 1) (n := 3) (Nat.le_of_ble_eq_true rfl) (Nat.le_of_ble_eq_true rfl) ?_
        exact W.aret (v := .ref (qa_8 0)) hx hb hr (Or.inl ⟨_, rfl⟩) (Or.inr ⟨_, rfl⟩) (QG_.mk (fun n => [(qa_8 0)].getD n 0) (fun _ => 0) (fun _ => 0) [0, 1] [] hP hD hK hS (by rw [hM]; rfl) (by rw [hM]; exact Or.inr rfl) (by first | (rw [hM]; rfl) | rfl) (by decide) rfl) hS.2.2 dX8_againstPair_27
  · rw [if_pos c_2] at hM
    refine lv_iconst (v := 3) hx hb dX8_againstPair_8 (by decide) ?_
    refine lv_iload_n hx hb dX8_againstPair_9 rfl (lv_at hl 1 rfl) ?_
    refine kc_ (wc := []) (wr := [(h_S, .inr (11, [h_S_0, h_S_1, h_S_2, h_S_3, h_S_4, .int n, h_S_6, h_S_7, h_S_8, h_S_9]))]) (va_runS (As := [.int 3, .int a1]) (rest := []) ⟨hx, hb, hml, hown, hts⟩ (c_X8_because l hl0 D ad H.size 3 a1) (va_cwS 2 hts gX8_againstPair_X8_because rfl rfl rfl (by decide +kernel) ⟨Nat.le_of_ble_eq_true rfl, Nat.le_of_ble_eq_true rfl⟩) ⟨PC_.blind, PC_.pre hF hK hP hD hS hA [] [] rfl (by decide) rfl⟩ rfl rfl hl.1 rfl (lv_room (Nat.le_of_ble_eq_true rfl)) dX8_againstPair_10 ⟨(Nat.le_of_ble_eq_true rfl), (Nat.le_of_ble_eq_true rfl)⟩) hK hP hD hS hA [] [0] [] rfl rfl (by decide) (by decide) rfl (fun qa_10 ka_10 ia H locs hpo hP hD hK hS => ?_)
    rcases hpo with c_11 | c_11
    · rw [c_11] at hP hD
      rw [c_11]
      have hP : va_P D vwCl [(h_S, .inr (11, [h_S_0, h_S_1, h_S_2, h_S_3, h_S_4, .int n, h_S_6, h_S_7, h_S_8, h_S_9]))] H := hP
      have hD : va_D A [(h_S, .inr (11, [h_S_0, h_S_1, h_S_2, h_S_3, h_S_4, .int n, h_S_6, h_S_7, h_S_8, h_S_9]))] := hD
      have hK : va_K D vwCl [] s := hK
      rw [if_pos c_11] at hM
      refine W.eq (g2 := F0 m 13 ls [.null]) rfl ?_
      refine W.widen (k := 1) (n := 3) (Nat.le_of_ble_eq_true rfl) (Nat.le_of_ble_eq_true rfl) ?_
      exact W.aret (v := .null) hx hb hr (Or.inl ⟨_, rfl⟩) (Or.inl rfl) (QG_.mk (fun n => [0].getD n 0) (fun _ => 0) (fun _ => 0) [0] [] hP hD hK hS (by rw [hM]; rfl) (by rw [hM]; exact Or.inl rfl) (by first | (rw [hM]; rfl) | rfl) (by decide) rfl) hS.2.2 dX8_againstPair_13
    · rw [c_11] at hP hD
      rw [c_11]
      have hP : va_P D vwCl [(h_S, .inr (11, [h_S_0, h_S_1, h_S_2, h_S_3, h_S_4, .int n, h_S_6, h_S_7, h_S_8, h_S_9])), ((qa_10 0), .inr (10, [.int (F_X8_because 3 a1).2.1, .int (F_X8_because 3 a1).2.2, .null]))] H := hP
      have hD : va_D A [(h_S, .inr (11, [h_S_0, h_S_1, h_S_2, h_S_3, h_S_4, .int n, h_S_6, h_S_7, h_S_8, h_S_9])), ((qa_10 0), .inr (10, [.int (F_X8_because 3 a1).2.1, .int (F_X8_because 3 a1).2.2, .null]))] := hD
      have hK : va_K D vwCl [] s := hK
      rw [if_neg (show ¬ (F_X8_because 3 a1).1 = 0 from by rw [c_11]; decide)] at hM
      refine W.eq (g2 := F0 m 13 ls [.ref (qa_10 0)]) rfl ?_
      refine W.widen (k := 1) (n := 3) (Nat.le_of_ble_eq_true rfl) (Nat.le_of_ble_eq_true rfl) ?_
      exact W.aret (v := .ref (qa_10 0)) hx hb hr (Or.inl ⟨_, rfl⟩) (Or.inr ⟨_, rfl⟩) (QG_.mk (fun n => [(qa_10 0)].getD n 0) (fun _ => 0) (fun _ => 0) [0, 1] [] hP hD hK hS (by rw [hM]; rfl) (by rw [hM]; exact Or.inr rfl) (by first | (rw [hM]; rfl) | rfl) (by decide) rfl) hS.2.2 dX8_againstPair_13
def F_X8_againstCanal (cs : Nat → Int32) (n : Int32) (a1 : Int32) (a2 : Int32) (a3 : Int32) : Nat × Int32 × Int32 := (if (F_X8_againstPair n a1 a2).1 = 0 then (if a3 < 1 then (if (F_X8_because 1 0).1 = 0 then (0, 0, 0) else (1, (F_X8_because 1 0).2.1, (F_X8_because 1 0).2.2)) else (if a3 ≤ 9 then (if (F_X8_costBetween cs a1 a2) = a3 then (if (F_X8_because 5 0).1 = 0 then (0, 0, 0) else (1, (F_X8_because 5 0).2.1, (F_X8_because 5 0).2.2)) else (0, 0, 0)) else (if (F_X8_because 1 0).1 = 0 then (0, 0, 0) else (1, (F_X8_because 1 0).2.1, (F_X8_because 1 0).2.2)))) else (1, (F_X8_againstPair n a1 a2).2.1, (F_X8_againstPair n a1 a2).2.2))
theorem R_X8_againstCanal {cs : Nat → Int32} {n a b c : Int32} (h : (F_X8_againstCanal cs n a b c).1 = 0) : (0 ≤ a.toInt ∧ a.toInt < n.toInt ∧ 0 ≤ b.toInt ∧ b.toInt < n.toInt ∧ a ≠ b) ∧ 1 ≤ c.toInt ∧ c.toInt ≤ 9 ∧ F_X8_costBetween cs a b ≠ c := by
  have e1 : (1 : Int32).toInt = 1 := by decide +kernel
  have e9 : (9 : Int32).toInt = 9 := by decide +kernel
  unfold F_X8_againstCanal at h
  by_cases c1 : (F_X8_againstPair n a b).1 = 0
  · rw [if_pos c1] at h
    by_cases c2 : c < 1
    · rw [if_pos c2] at h; simp [F_X8_because] at h
    rw [if_neg c2] at h
    by_cases c3 : c ≤ 9
    · rw [if_pos c3] at h
      by_cases c4 : F_X8_costBetween cs a b = c
      · rw [if_pos c4] at h; simp [F_X8_because] at h
      have y2 := f_nlt c2
      have y3 := f_le c3
      exact ⟨R_X8_againstPair c1, by omega, by omega, c4⟩
    · rw [if_neg c3] at h; simp [F_X8_because] at h
  · rw [if_neg c1] at h; simp at h
set_option maxHeartbeats 4000000 in
set_option maxRecDepth 100000 in
theorem c_X8_againstCanal (l : Launch) (hl0 : l.stackTraces = false) (D : va_G) (ad : Nat → Nat) (sz : Nat) (h_cs : Nat) (h_S : Nat) (k_cs : ClassId) (h_S_0 : Value) (h_S_1 : Value) (h_S_3 : Value) (h_S_4 : Value) (h_S_6 : Value) (h_S_7 : Value) (h_S_8 : Value) (h_S_9 : Value) (cs : Nat → Int32) (n : Int32) (a1 : Int32) (a2 : Int32) (a3 : Int32) (hy0 : n.toInt ≤ 6) : Met l yX8_againstCanal wsX8_againstCanal ({ frames := 4, cells := 2, slots := 6, locals := 112 }) (PC_ D ad [(h_cs, .inl (k_cs, 36, .inl cs)), (h_S, .inr (11, [h_S_0, h_S_1, .ref h_cs, h_S_3, h_S_4, .int n, h_S_6, h_S_7, h_S_8, h_S_9]))] [(k_cs, .int)] sz [.ref h_S, .int a1, .int a2, .int a3]) (QG_ D (fun q i => some (rfV (F_X8_againstCanal cs n a1 a2 a3).1 (q 0))) (fun q i => (F_X8_againstCanal cs n a1 a2 a3).1 = 0 ∨ (F_X8_againstCanal cs n a1 a2 a3).1 = 1) (fun q k i => ([(h_cs, .inl (k_cs, 36, .inl cs)), (h_S, .inr (11, [h_S_0, h_S_1, .ref h_cs, h_S_3, h_S_4, .int n, h_S_6, h_S_7, h_S_8, h_S_9]))] ++ rfW (F_X8_againstCanal cs n a1 a2 a3).1 (q 0) ((F_X8_againstCanal cs n a1 a2 a3).2.1) ((F_X8_againstCanal cs n a1 a2 a3).2.2))) (fun q k i => [(k_cs, .int)]) (va_A [(h_cs, .inl (k_cs, 36, .inl cs)), (h_S, .inr (11, [h_S_0, h_S_1, .ref h_cs, h_S_3, h_S_4, .int n, h_S_6, h_S_7, h_S_8, h_S_9]))] sz)) 2 6 (va_A [(h_cs, .inl (k_cs, 36, .inl cs)), (h_S, .inr (11, [h_S_0, h_S_1, .ref h_cs, h_S_3, h_S_4, .int n, h_S_6, h_S_7, h_S_8, h_S_9]))] sz) := by
  refine Met.ofW (cc := cX8_againstCanal) (maxL := 5) (ret := (some (.object "CanalMaps$Refusal"))) (by decide) rfl ?_
  intro p e s m args below meth c s₁ B hml hv
  obtain ⟨rfl, hsz, hP, hK, hD0, hF⟩ := hv
  have hx := B.exec
  have hb := B.bytes
  have hr := B.returns
  have hts := atoms_spec (ws := wsX8_againstCanal) B.pre
  have hown : s.vm.findClass RX8 = some m.cls := findClass_of_methodNamed B.named
  have hlocks := B.notSynchronized
  subst hsz
  have hD := hD0.self (sz := s.heap.size)
  generalize hAe : va_A [(h_cs, .inl (k_cs, 36, .inl cs)), (h_S, .inr (11, [h_S_0, h_S_1, .ref h_cs, h_S_3, h_S_4, .int n, h_S_6, h_S_7, h_S_8, h_S_9]))] s.heap.size = A at hD hF ⊢
  have hA : ∀ q : Nat, s.heap.size ≤ q → A q := fun q h => by rw [← hAe]; exact Or.inr h
  obtain ⟨H, hHe⟩ : ∃ H : Heap, H = s.heap := ⟨_, rfl⟩
  have hS : va_S A s.heap H [] := by rw [hHe]; exact va_S.rf
  have hP : va_P D vwCl [(h_cs, .inl (k_cs, 36, .inl cs)), (h_S, .inr (11, [h_S_0, h_S_1, .ref h_cs, h_S_3, h_S_4, .int n, h_S_6, h_S_7, h_S_8, h_S_9]))] H := by rw [hHe]; exact hP
  rw [← hHe]
  have hl := lv_entry [.ref h_S, .int a1, .int a2, .int a3] (n := 5) (Nat.le_of_ble_eq_true rfl)
  rw [lg_entry_eq]
  generalize (lg_sl [.ref h_S, .int a1, .int a2, .int a3] ++ List.replicate (5 - (lg_sl [.ref h_S, .int a1, .int a2, .int a3]).length) Slot.unset).toArray = ls at hl ⊢
  have hl : lv_has ls 5 [(0, .ref h_S), (1, .int a1), (2, .int a2), (3, .int a3)] := hl
  have hM : F_X8_againstCanal cs n a1 a2 a3 = (if (F_X8_againstPair n a1 a2).1 = 0 then (if a3 < 1 then (if (F_X8_because 1 0).1 = 0 then (0, 0, 0) else (1, (F_X8_because 1 0).2.1, (F_X8_because 1 0).2.2)) else (if a3 ≤ 9 then (if (F_X8_costBetween cs a1 a2) = a3 then (if (F_X8_because 5 0).1 = 0 then (0, 0, 0) else (1, (F_X8_because 5 0).2.1, (F_X8_because 5 0).2.2)) else (0, 0, 0)) else (if (F_X8_because 1 0).1 = 0 then (0, 0, 0) else (1, (F_X8_because 1 0).2.1, (F_X8_because 1 0).2.2)))) else (1, (F_X8_againstPair n a1 a2).2.1, (F_X8_againstPair n a1 a2).2.2)) := rfl
  refine lv_aload_n hx hb dX8_againstCanal_0 rfl (lv_at hl 0 rfl) ?_
  refine lv_iload_n hx hb dX8_againstCanal_1 rfl (lv_at hl 1 rfl) ?_
  refine lv_iload_n hx hb dX8_againstCanal_2 rfl (lv_at hl 2 rfl) ?_
  refine kc_ (wc := [(h_S, .inr (11, [h_S_0, h_S_1, .ref h_cs, h_S_3, h_S_4, .int n, h_S_6, h_S_7, h_S_8, h_S_9]))]) (wr := [(h_cs, .inl (k_cs, 36, .inl cs))]) (va_runV (As := [.int a1, .int a2]) (rest := []) ⟨hx, hb, hml, hown, hts⟩ (c_X8_againstPair l hl0 D ad H.size h_S (h_S_0) (h_S_1) (.ref h_cs) (h_S_3) (h_S_4) (h_S_6) (h_S_7) (h_S_8) (h_S_9) n a1 a2 (by have z0 := hy0; omega)) (cwV 2 hts gX8_againstCanal_X8_againstPair rfl rfl rfl (by decide +kernel) ⟨Nat.le_of_ble_eq_true rfl, Nat.le_of_ble_eq_true rfl⟩) ⟨PC_.blind, va_recv hK hP (ci := 11) (q0 := 1) rfl rfl, PC_.pre hF hK hP hD hS hA [1] [] rfl (by decide) rfl⟩ rfl rfl hl.1 rfl (lv_room (Nat.le_of_ble_eq_true rfl)) dX8_againstCanal_3 ⟨(Nat.le_of_ble_eq_true rfl), (Nat.le_of_ble_eq_true rfl)⟩) hK hP hD hS hA [1] [0] [0] rfl rfl (by decide) (by decide) rfl (fun qa_1 ka_1 ia H locs hpo hP hD hK hS => ?_)
  rcases hpo with c_2 | c_2
  · rw [c_2] at hP hD
    rw [c_2]
    have hP : va_P D vwCl [(h_cs, .inl (k_cs, 36, .inl cs)), (h_S, .inr (11, [h_S_0, h_S_1, .ref h_cs, h_S_3, h_S_4, .int n, h_S_6, h_S_7, h_S_8, h_S_9]))] H := hP
    have hD : va_D A [(h_cs, .inl (k_cs, 36, .inl cs)), (h_S, .inr (11, [h_S_0, h_S_1, .ref h_cs, h_S_3, h_S_4, .int n, h_S_6, h_S_7, h_S_8, h_S_9]))] := hD
    have hK : va_K D vwCl [(k_cs, .int)] s := hK
    rw [if_pos c_2] at hM
    refine W.eq (g2 := F0 m 6 ls [.null]) rfl ?_
    refine lv_astoreN (lv' := [(4, .null), (0, .ref h_S), (1, .int a1), (2, .int a2), (3, .int a3)]) hx hb dX8_againstCanal_6 hl (by decide) rfl (fun ls hl => ?_)
    refine lv_aloadN hx hb dX8_againstCanal_8 (lv_at hl 0 rfl) ?_
    refine lv_ifnullN (tgt := 16) hx hb dX8_againstCanal_10 (by decide) ?_
    refine lv_iload_n hx hb dX8_againstCanal_16 rfl (lv_at hl 4 rfl) ?_
    refine lv_iconst (v := 1) hx hb dX8_againstCanal_17 (by decide) ?_
    refine lv_icmp_lt (tgt := 27) hx hb dX8_againstCanal_18 (by decide) (fun c_3 => ?_) (fun c_3 => ?_)
    · rw [if_pos c_3] at hM
      refine lv_iconst (v := 1) hx hb dX8_againstCanal_27 (by decide) ?_
      refine lv_iconst (v := 0) hx hb dX8_againstCanal_28 (by decide) ?_
      refine kc_ (wc := []) (wr := [(h_cs, .inl (k_cs, 36, .inl cs)), (h_S, .inr (11, [h_S_0, h_S_1, .ref h_cs, h_S_3, h_S_4, .int n, h_S_6, h_S_7, h_S_8, h_S_9]))]) (va_runS (As := [.int 1, .int 0]) (rest := []) ⟨hx, hb, hml, hown, hts⟩ (c_X8_because l hl0 D ad H.size 1 0) (va_cwS 2 hts gX8_againstCanal_X8_because rfl rfl rfl (by decide +kernel) ⟨Nat.le_of_ble_eq_true rfl, Nat.le_of_ble_eq_true rfl⟩) ⟨PC_.blind, PC_.pre hF hK hP hD hS hA [] [] rfl (by decide) rfl⟩ rfl rfl hl.1 rfl (lv_room (Nat.le_of_ble_eq_true rfl)) dX8_againstCanal_29 ⟨(Nat.le_of_ble_eq_true rfl), (Nat.le_of_ble_eq_true rfl)⟩) hK hP hD hS hA [] [0, 1] [0] rfl rfl (by decide) (by decide) rfl (fun qa_4 ka_4 ia H locs hpo hP hD hK hS => ?_)
      rcases hpo with c_5 | c_5
      · rw [c_5] at hP hD
        rw [c_5]
        have hP : va_P D vwCl [(h_cs, .inl (k_cs, 36, .inl cs)), (h_S, .inr (11, [h_S_0, h_S_1, .ref h_cs, h_S_3, h_S_4, .int n, h_S_6, h_S_7, h_S_8, h_S_9]))] H := hP
        have hD : va_D A [(h_cs, .inl (k_cs, 36, .inl cs)), (h_S, .inr (11, [h_S_0, h_S_1, .ref h_cs, h_S_3, h_S_4, .int n, h_S_6, h_S_7, h_S_8, h_S_9]))] := hD
        have hK : va_K D vwCl [(k_cs, .int)] s := hK
        rw [if_pos c_5] at hM
        refine W.eq (g2 := F0 m 32 ls [.null]) rfl ?_
        refine W.widen (k := 2) (n := 6) (Nat.le_of_ble_eq_true rfl) (Nat.le_of_ble_eq_true rfl) ?_
        exact W.aret (v := .null) hx hb hr (Or.inl ⟨_, rfl⟩) (Or.inl rfl) (QG_.mk (fun n => [0].getD n 0) (fun _ => 0) (fun _ => 0) [0, 1] [0] hP hD hK hS (by rw [hM]; rfl) (by rw [hM]; exact Or.inl rfl) (by first | (rw [hM]; rfl) | rfl) (by decide) rfl) hS.2.2 dX8_againstCanal_32
      · rw [c_5] at hP hD
        rw [c_5]
        have hP : va_P D vwCl [(h_cs, .inl (k_cs, 36, .inl cs)), (h_S, .inr (11, [h_S_0, h_S_1, .ref h_cs, h_S_3, h_S_4, .int n, h_S_6, h_S_7, h_S_8, h_S_9])), ((qa_4 0), .inr (10, [.int (F_X8_because 1 0).2.1, .int (F_X8_because 1 0).2.2, .null]))] H := hP
        have hD : va_D A [(h_cs, .inl (k_cs, 36, .inl cs)), (h_S, .inr (11, [h_S_0, h_S_1, .ref h_cs, h_S_3, h_S_4, .int n, h_S_6, h_S_7, h_S_8, h_S_9])), ((qa_4 0), .inr (10, [.int (F_X8_because 1 0).2.1, .int (F_X8_because 1 0).2.2, .null]))] := hD
        have hK : va_K D vwCl [(k_cs, .int)] s := hK
        rw [if_neg (show ¬ (F_X8_because 1 0).1 = 0 from by rw [c_5]; decide)] at hM
        refine W.eq (g2 := F0 m 32 ls [.ref (qa_4 0)]) rfl ?_
        refine W.widen (k := 2) (n := 6) (Nat.le_of_ble_eq_true rfl) (Nat.le_of_ble_eq_true rfl) ?_
        exact W.aret (v := .ref (qa_4 0)) hx hb hr (Or.inl ⟨_, rfl⟩) (Or.inr ⟨_, rfl⟩) (QG_.mk (fun n => [(qa_4 0)].getD n 0) (fun _ => 0) (fun _ => 0) [0, 1, 2] [0] hP hD hK hS (by rw [hM]; rfl) (by rw [hM]; exact Or.inr rfl) (by first | (rw [hM]; rfl) | rfl) (by decide) rfl) hS.2.2 dX8_againstCanal_32
    · rw [if_neg c_3] at hM
      refine lv_iload_n hx hb dX8_againstCanal_21 rfl (lv_at hl 4 rfl) ?_
      refine lv_bipush (v := 9) hx hb dX8_againstCanal_22 (by decide) ?_
      refine lv_icmp_le (tgt := 33) hx hb dX8_againstCanal_24 (by decide) (fun c_6 => ?_) (fun c_6 => ?_)
      · rw [if_pos c_6] at hM
        refine lv_aload_n hx hb dX8_againstCanal_33 rfl (lv_at hl 1 rfl) ?_
        refine lv_iload_n hx hb dX8_againstCanal_34 rfl (lv_at hl 2 rfl) ?_
        refine lv_iload_n hx hb dX8_againstCanal_35 rfl (lv_at hl 3 rfl) ?_
        obtain ⟨y9, hy9⟩ : ∃ y9, (F_X8_costBetween cs a1 a2) = y9 := ⟨_, rfl⟩
        have hcon := (c_X8_costBetween l hl0 D ad H.size h_cs h_S k_cs (h_S_0) (h_S_1) (h_S_3) (h_S_4) (.int n) (h_S_6) (h_S_7) (h_S_8) (h_S_9) cs a1 a2)
        rw [hy9] at hcon
        refine kr_ (va_runV (As := [.int a1, .int a2]) (rest := []) ⟨hx, hb, hml, hown, hts⟩ hcon (cwV 2 hts gX8_againstCanal_X8_costBetween rfl rfl rfl (by decide +kernel) ⟨Nat.le_of_ble_eq_true rfl, Nat.le_of_ble_eq_true rfl⟩) ⟨PR_.blind, va_recv hK hP (ci := 11) (q0 := 1) rfl rfl, PR_.pre hF hK (hP.sub [0, 1] rfl) hS hA [0] rfl⟩ rfl rfl hl.1 rfl (lv_room (Nat.le_of_ble_eq_true rfl)) dX8_againstCanal_36 ⟨(Nat.le_of_ble_eq_true rfl), (Nat.le_of_ble_eq_true rfl)⟩) hP hS hA (fun H locs hP hS => ?_)
        subst hy9
        refine W.eq (g2 := F0 m 39 ls [.int (F_X8_costBetween cs a1 a2)]) rfl ?_
        refine lv_iload_n hx hb dX8_againstCanal_39 rfl (lv_at hl 4 rfl) ?_
        refine lv_icmp_ne (tgt := 51) hx hb dX8_againstCanal_40 (by decide) (fun c_8 => ?_) (fun c_8 => ?_)
        · rw [if_neg c_8] at hM
          refine lv_null hx hb dX8_againstCanal_51 ?_
          refine W.widen (k := 2) (n := 6) (Nat.le_of_ble_eq_true rfl) (Nat.le_of_ble_eq_true rfl) ?_
          exact W.aret (v := .null) hx hb hr (Or.inl ⟨_, rfl⟩) (Or.inl rfl) (QG_.mk (fun n => [0].getD n 0) (fun _ => 0) (fun _ => 0) [0, 1] [0] hP hD hK hS (by rw [hM]; rfl) (by rw [hM]; exact Or.inl rfl) (by first | (rw [hM]; rfl) | rfl) (by decide) rfl) hS.2.2 dX8_againstCanal_52
        · rw [if_pos c_8] at hM
          refine lv_iconst (v := 5) hx hb dX8_againstCanal_43 (by decide) ?_
          refine lv_iconst (v := 0) hx hb dX8_againstCanal_44 (by decide) ?_
          refine kc_ (wc := []) (wr := [(h_cs, .inl (k_cs, 36, .inl cs)), (h_S, .inr (11, [h_S_0, h_S_1, .ref h_cs, h_S_3, h_S_4, .int n, h_S_6, h_S_7, h_S_8, h_S_9]))]) (va_runS (As := [.int 5, .int 0]) (rest := []) ⟨hx, hb, hml, hown, hts⟩ (c_X8_because l hl0 D ad H.size 5 0) (va_cwS 2 hts gX8_againstCanal_X8_because rfl rfl rfl (by decide +kernel) ⟨Nat.le_of_ble_eq_true rfl, Nat.le_of_ble_eq_true rfl⟩) ⟨PC_.blind, PC_.pre hF hK hP hD hS hA [] [] rfl (by decide) rfl⟩ rfl rfl hl.1 rfl (lv_room (Nat.le_of_ble_eq_true rfl)) dX8_againstCanal_45 ⟨(Nat.le_of_ble_eq_true rfl), (Nat.le_of_ble_eq_true rfl)⟩) hK hP hD hS hA [] [0, 1] [0] rfl rfl (by decide) (by decide) rfl (fun qa_9 ka_9 ia H locs hpo hP hD hK hS => ?_)
          rcases hpo with c_10 | c_10
          · rw [c_10] at hP hD
            rw [c_10]
            have hP : va_P D vwCl [(h_cs, .inl (k_cs, 36, .inl cs)), (h_S, .inr (11, [h_S_0, h_S_1, .ref h_cs, h_S_3, h_S_4, .int n, h_S_6, h_S_7, h_S_8, h_S_9]))] H := hP
            have hD : va_D A [(h_cs, .inl (k_cs, 36, .inl cs)), (h_S, .inr (11, [h_S_0, h_S_1, .ref h_cs, h_S_3, h_S_4, .int n, h_S_6, h_S_7, h_S_8, h_S_9]))] := hD
            have hK : va_K D vwCl [(k_cs, .int)] s := hK
            rw [if_pos c_10] at hM
            refine W.eq (g2 := F0 m 48 ls [.null]) rfl ?_
            refine lv_goto (tgt := 52) hx hb dX8_againstCanal_48 (by decide) ?_
            refine W.widen (k := 2) (n := 6) (Nat.le_of_ble_eq_true rfl) (Nat.le_of_ble_eq_true rfl) ?_
            exact W.aret (v := .null) hx hb hr (Or.inl ⟨_, rfl⟩) (Or.inl rfl) (QG_.mk (fun n => [0].getD n 0) (fun _ => 0) (fun _ => 0) [0, 1] [0] hP hD hK hS (by rw [hM]; rfl) (by rw [hM]; exact Or.inl rfl) (by first | (rw [hM]; rfl) | rfl) (by decide) rfl) hS.2.2 dX8_againstCanal_52
          · rw [c_10] at hP hD
            rw [c_10]
            have hP : va_P D vwCl [(h_cs, .inl (k_cs, 36, .inl cs)), (h_S, .inr (11, [h_S_0, h_S_1, .ref h_cs, h_S_3, h_S_4, .int n, h_S_6, h_S_7, h_S_8, h_S_9])), ((qa_9 0), .inr (10, [.int (F_X8_because 5 0).2.1, .int (F_X8_because 5 0).2.2, .null]))] H := hP
            have hD : va_D A [(h_cs, .inl (k_cs, 36, .inl cs)), (h_S, .inr (11, [h_S_0, h_S_1, .ref h_cs, h_S_3, h_S_4, .int n, h_S_6, h_S_7, h_S_8, h_S_9])), ((qa_9 0), .inr (10, [.int (F_X8_because 5 0).2.1, .int (F_X8_because 5 0).2.2, .null]))] := hD
            have hK : va_K D vwCl [(k_cs, .int)] s := hK
            rw [if_neg (show ¬ (F_X8_because 5 0).1 = 0 from by rw [c_10]; decide)] at hM
            refine W.eq (g2 := F0 m 48 ls [.ref (qa_9 0)]) rfl ?_
            refine lv_goto (tgt := 52) hx hb dX8_againstCanal_48 (by decide) ?_
            refine W.widen (k := 2) (n := 6) (Nat.le_of_ble_eq_true rfl) (Nat.le_of_ble_eq_true rfl) ?_
            exact W.aret (v := .ref (qa_9 0)) hx hb hr (Or.inl ⟨_, rfl⟩) (Or.inr ⟨_, rfl⟩) (QG_.mk (fun n => [(qa_9 0)].getD n 0) (fun _ => 0) (fun _ => 0) [0, 1, 2] [0] hP hD hK hS (by rw [hM]; rfl) (by rw [hM]; exact Or.inr rfl) (by first | (rw [hM]; rfl) | rfl) (by decide) rfl) hS.2.2 dX8_againstCanal_52
      · rw [if_neg c_6] at hM
        refine lv_iconst (v := 1) hx hb dX8_againstCanal_27 (by decide) ?_
        refine lv_iconst (v := 0) hx hb dX8_againstCanal_28 (by decide) ?_
        refine kc_ (wc := []) (wr := [(h_cs, .inl (k_cs, 36, .inl cs)), (h_S, .inr (11, [h_S_0, h_S_1, .ref h_cs, h_S_3, h_S_4, .int n, h_S_6, h_S_7, h_S_8, h_S_9]))]) (va_runS (As := [.int 1, .int 0]) (rest := []) ⟨hx, hb, hml, hown, hts⟩ (c_X8_because l hl0 D ad H.size 1 0) (va_cwS 2 hts gX8_againstCanal_X8_because rfl rfl rfl (by decide +kernel) ⟨Nat.le_of_ble_eq_true rfl, Nat.le_of_ble_eq_true rfl⟩) ⟨PC_.blind, PC_.pre hF hK hP hD hS hA [] [] rfl (by decide) rfl⟩ rfl rfl hl.1 rfl (lv_room (Nat.le_of_ble_eq_true rfl)) dX8_againstCanal_29 ⟨(Nat.le_of_ble_eq_true rfl), (Nat.le_of_ble_eq_true rfl)⟩) hK hP hD hS hA [] [0, 1] [0] rfl rfl (by decide) (by decide) rfl (fun qa_11 ka_11 ia H locs hpo hP hD hK hS => ?_)
        rcases hpo with c_12 | c_12
        · rw [c_12] at hP hD
          rw [c_12]
          have hP : va_P D vwCl [(h_cs, .inl (k_cs, 36, .inl cs)), (h_S, .inr (11, [h_S_0, h_S_1, .ref h_cs, h_S_3, h_S_4, .int n, h_S_6, h_S_7, h_S_8, h_S_9]))] H := hP
          have hD : va_D A [(h_cs, .inl (k_cs, 36, .inl cs)), (h_S, .inr (11, [h_S_0, h_S_1, .ref h_cs, h_S_3, h_S_4, .int n, h_S_6, h_S_7, h_S_8, h_S_9]))] := hD
          have hK : va_K D vwCl [(k_cs, .int)] s := hK
          rw [if_pos c_12] at hM
          refine W.eq (g2 := F0 m 32 ls [.null]) rfl ?_
          refine W.widen (k := 2) (n := 6) (Nat.le_of_ble_eq_true rfl) (Nat.le_of_ble_eq_true rfl) ?_
          exact W.aret (v := .null) hx hb hr (Or.inl ⟨_, rfl⟩) (Or.inl rfl) (QG_.mk (fun n => [0].getD n 0) (fun _ => 0) (fun _ => 0) [0, 1] [0] hP hD hK hS (by rw [hM]; rfl) (by rw [hM]; exact Or.inl rfl) (by first | (rw [hM]; rfl) | rfl) (by decide) rfl) hS.2.2 dX8_againstCanal_32
        · rw [c_12] at hP hD
          rw [c_12]
          have hP : va_P D vwCl [(h_cs, .inl (k_cs, 36, .inl cs)), (h_S, .inr (11, [h_S_0, h_S_1, .ref h_cs, h_S_3, h_S_4, .int n, h_S_6, h_S_7, h_S_8, h_S_9])), ((qa_11 0), .inr (10, [.int (F_X8_because 1 0).2.1, .int (F_X8_because 1 0).2.2, .null]))] H := hP
          have hD : va_D A [(h_cs, .inl (k_cs, 36, .inl cs)), (h_S, .inr (11, [h_S_0, h_S_1, .ref h_cs, h_S_3, h_S_4, .int n, h_S_6, h_S_7, h_S_8, h_S_9])), ((qa_11 0), .inr (10, [.int (F_X8_because 1 0).2.1, .int (F_X8_because 1 0).2.2, .null]))] := hD
          have hK : va_K D vwCl [(k_cs, .int)] s := hK
          rw [if_neg (show ¬ (F_X8_because 1 0).1 = 0 from by rw [c_12]; decide)] at hM
          refine W.eq (g2 := F0 m 32 ls [.ref (qa_11 0)]) rfl ?_
          refine W.widen (k := 2) (n := 6) (Nat.le_of_ble_eq_true rfl) (Nat.le_of_ble_eq_true rfl) ?_
          exact W.aret (v := .ref (qa_11 0)) hx hb hr (Or.inl ⟨_, rfl⟩) (Or.inr ⟨_, rfl⟩) (QG_.mk (fun n => [(qa_11 0)].getD n 0) (fun _ => 0) (fun _ => 0) [0, 1, 2] [0] hP hD hK hS (by rw [hM]; rfl) (by rw [hM]; exact Or.inr rfl) (by first | (rw [hM]; rfl) | rfl) (by decide) rfl) hS.2.2 dX8_againstCanal_32
  · rw [c_2] at hP hD
    rw [c_2]
    have hP : va_P D vwCl [(h_cs, .inl (k_cs, 36, .inl cs)), (h_S, .inr (11, [h_S_0, h_S_1, .ref h_cs, h_S_3, h_S_4, .int n, h_S_6, h_S_7, h_S_8, h_S_9])), ((qa_1 0), .inr (10, [.int (F_X8_againstPair n a1 a2).2.1, .int (F_X8_againstPair n a1 a2).2.2, .null]))] H := hP
    have hD : va_D A [(h_cs, .inl (k_cs, 36, .inl cs)), (h_S, .inr (11, [h_S_0, h_S_1, .ref h_cs, h_S_3, h_S_4, .int n, h_S_6, h_S_7, h_S_8, h_S_9])), ((qa_1 0), .inr (10, [.int (F_X8_againstPair n a1 a2).2.1, .int (F_X8_againstPair n a1 a2).2.2, .null]))] := hD
    have hK : va_K D vwCl [(k_cs, .int)] s := hK
    rw [if_neg (show ¬ (F_X8_againstPair n a1 a2).1 = 0 from by rw [c_2]; decide)] at hM
    refine W.eq (g2 := F0 m 6 ls [.ref (qa_1 0)]) rfl ?_
    refine lv_astore (lv' := [(4, .ref (qa_1 0)), (0, .ref h_S), (1, .int a1), (2, .int a2), (3, .int a3)]) hx hb dX8_againstCanal_6 hl (by decide) rfl (fun ls hl => ?_)
    refine lv_aload hx hb dX8_againstCanal_8 (lv_at hl 0 rfl) ?_
    refine lv_ifnull hx hb dX8_againstCanal_10 ?_
    refine lv_aload hx hb dX8_againstCanal_13 (lv_at hl 0 rfl) ?_
    refine W.widen (k := 2) (n := 6) (Nat.le_of_ble_eq_true rfl) (Nat.le_of_ble_eq_true rfl) ?_
    exact W.aret (v := .ref (qa_1 0)) hx hb hr (Or.inl ⟨_, rfl⟩) (Or.inr ⟨_, rfl⟩) (QG_.mk (fun n => [(qa_1 0)].getD n 0) (fun _ => 0) (fun _ => 0) [0, 1, 2] [0] hP hD hK hS (by rw [hM]; rfl) (by rw [hM]; exact Or.inr rfl) (by first | (rw [hM]; rfl) | rfl) (by decide) rfl) hS.2.2 dX8_againstCanal_15
def F_X8_againstClosing (cs : Nat → Int32) (n : Int32) (a1 : Int32) (a2 : Int32) : Nat × Int32 × Int32 := (if (F_X8_againstPair n a1 a2).1 = 0 then (if (F_X8_costBetween cs a1 a2) = 0 then (if (F_X8_because 6 0).1 = 0 then (0, 0, 0) else (1, (F_X8_because 6 0).2.1, (F_X8_because 6 0).2.2)) else (0, 0, 0)) else (1, (F_X8_againstPair n a1 a2).2.1, (F_X8_againstPair n a1 a2).2.2))
theorem R_X8_againstClosing {cs : Nat → Int32} {n a b : Int32} (h : (F_X8_againstClosing cs n a b).1 = 0) : (0 ≤ a.toInt ∧ a.toInt < n.toInt ∧ 0 ≤ b.toInt ∧ b.toInt < n.toInt ∧ a ≠ b) ∧ F_X8_costBetween cs a b ≠ 0 := by
  unfold F_X8_againstClosing at h
  by_cases c1 : (F_X8_againstPair n a b).1 = 0
  · rw [if_pos c1] at h
    by_cases c4 : F_X8_costBetween cs a b = 0
    · rw [if_pos c4] at h; simp [F_X8_because] at h
    exact ⟨R_X8_againstPair c1, c4⟩
  · rw [if_neg c1] at h; simp at h
set_option maxHeartbeats 4000000 in
set_option maxRecDepth 100000 in
theorem c_X8_againstClosing (l : Launch) (hl0 : l.stackTraces = false) (D : va_G) (ad : Nat → Nat) (sz : Nat) (h_cs : Nat) (h_S : Nat) (k_cs : ClassId) (h_S_0 : Value) (h_S_1 : Value) (h_S_3 : Value) (h_S_4 : Value) (h_S_6 : Value) (h_S_7 : Value) (h_S_8 : Value) (h_S_9 : Value) (cs : Nat → Int32) (n : Int32) (a1 : Int32) (a2 : Int32) (hy0 : n.toInt ≤ 6) : Met l yX8_againstClosing wsX8_againstClosing ({ frames := 4, cells := 2, slots := 6, locals := 112 }) (PC_ D ad [(h_cs, .inl (k_cs, 36, .inl cs)), (h_S, .inr (11, [h_S_0, h_S_1, .ref h_cs, h_S_3, h_S_4, .int n, h_S_6, h_S_7, h_S_8, h_S_9]))] [(k_cs, .int)] sz [.ref h_S, .int a1, .int a2]) (QG_ D (fun q i => some (rfV (F_X8_againstClosing cs n a1 a2).1 (q 0))) (fun q i => (F_X8_againstClosing cs n a1 a2).1 = 0 ∨ (F_X8_againstClosing cs n a1 a2).1 = 1) (fun q k i => ([(h_cs, .inl (k_cs, 36, .inl cs)), (h_S, .inr (11, [h_S_0, h_S_1, .ref h_cs, h_S_3, h_S_4, .int n, h_S_6, h_S_7, h_S_8, h_S_9]))] ++ rfW (F_X8_againstClosing cs n a1 a2).1 (q 0) ((F_X8_againstClosing cs n a1 a2).2.1) ((F_X8_againstClosing cs n a1 a2).2.2))) (fun q k i => [(k_cs, .int)]) (va_A [(h_cs, .inl (k_cs, 36, .inl cs)), (h_S, .inr (11, [h_S_0, h_S_1, .ref h_cs, h_S_3, h_S_4, .int n, h_S_6, h_S_7, h_S_8, h_S_9]))] sz)) 2 6 (va_A [(h_cs, .inl (k_cs, 36, .inl cs)), (h_S, .inr (11, [h_S_0, h_S_1, .ref h_cs, h_S_3, h_S_4, .int n, h_S_6, h_S_7, h_S_8, h_S_9]))] sz) := by
  refine Met.ofW (cc := cX8_againstClosing) (maxL := 4) (ret := (some (.object "CanalMaps$Refusal"))) (by decide) rfl ?_
  intro p e s m args below meth c s₁ B hml hv
  obtain ⟨rfl, hsz, hP, hK, hD0, hF⟩ := hv
  have hx := B.exec
  have hb := B.bytes
  have hr := B.returns
  have hts := atoms_spec (ws := wsX8_againstClosing) B.pre
  have hown : s.vm.findClass RX8 = some m.cls := findClass_of_methodNamed B.named
  have hlocks := B.notSynchronized
  subst hsz
  have hD := hD0.self (sz := s.heap.size)
  generalize hAe : va_A [(h_cs, .inl (k_cs, 36, .inl cs)), (h_S, .inr (11, [h_S_0, h_S_1, .ref h_cs, h_S_3, h_S_4, .int n, h_S_6, h_S_7, h_S_8, h_S_9]))] s.heap.size = A at hD hF ⊢
  have hA : ∀ q : Nat, s.heap.size ≤ q → A q := fun q h => by rw [← hAe]; exact Or.inr h
  obtain ⟨H, hHe⟩ : ∃ H : Heap, H = s.heap := ⟨_, rfl⟩
  have hS : va_S A s.heap H [] := by rw [hHe]; exact va_S.rf
  have hP : va_P D vwCl [(h_cs, .inl (k_cs, 36, .inl cs)), (h_S, .inr (11, [h_S_0, h_S_1, .ref h_cs, h_S_3, h_S_4, .int n, h_S_6, h_S_7, h_S_8, h_S_9]))] H := by rw [hHe]; exact hP
  rw [← hHe]
  have hl := lv_entry [.ref h_S, .int a1, .int a2] (n := 4) (Nat.le_of_ble_eq_true rfl)
  rw [lg_entry_eq]
  generalize (lg_sl [.ref h_S, .int a1, .int a2] ++ List.replicate (4 - (lg_sl [.ref h_S, .int a1, .int a2]).length) Slot.unset).toArray = ls at hl ⊢
  have hl : lv_has ls 4 [(0, .ref h_S), (1, .int a1), (2, .int a2)] := hl
  have hM : F_X8_againstClosing cs n a1 a2 = (if (F_X8_againstPair n a1 a2).1 = 0 then (if (F_X8_costBetween cs a1 a2) = 0 then (if (F_X8_because 6 0).1 = 0 then (0, 0, 0) else (1, (F_X8_because 6 0).2.1, (F_X8_because 6 0).2.2)) else (0, 0, 0)) else (1, (F_X8_againstPair n a1 a2).2.1, (F_X8_againstPair n a1 a2).2.2)) := rfl
  refine lv_aload_n hx hb dX8_againstClosing_0 rfl (lv_at hl 0 rfl) ?_
  refine lv_iload_n hx hb dX8_againstClosing_1 rfl (lv_at hl 1 rfl) ?_
  refine lv_iload_n hx hb dX8_againstClosing_2 rfl (lv_at hl 2 rfl) ?_
  refine kc_ (wc := [(h_S, .inr (11, [h_S_0, h_S_1, .ref h_cs, h_S_3, h_S_4, .int n, h_S_6, h_S_7, h_S_8, h_S_9]))]) (wr := [(h_cs, .inl (k_cs, 36, .inl cs))]) (va_runV (As := [.int a1, .int a2]) (rest := []) ⟨hx, hb, hml, hown, hts⟩ (c_X8_againstPair l hl0 D ad H.size h_S (h_S_0) (h_S_1) (.ref h_cs) (h_S_3) (h_S_4) (h_S_6) (h_S_7) (h_S_8) (h_S_9) n a1 a2 (by have z0 := hy0; omega)) (cwV 2 hts gX8_againstClosing_X8_againstPair rfl rfl rfl (by decide +kernel) ⟨Nat.le_of_ble_eq_true rfl, Nat.le_of_ble_eq_true rfl⟩) ⟨PC_.blind, va_recv hK hP (ci := 11) (q0 := 1) rfl rfl, PC_.pre hF hK hP hD hS hA [1] [] rfl (by decide) rfl⟩ rfl rfl hl.1 rfl (lv_room (Nat.le_of_ble_eq_true rfl)) dX8_againstClosing_3 ⟨(Nat.le_of_ble_eq_true rfl), (Nat.le_of_ble_eq_true rfl)⟩) hK hP hD hS hA [1] [0] [0] rfl rfl (by decide) (by decide) rfl (fun qa_1 ka_1 ia H locs hpo hP hD hK hS => ?_)
  rcases hpo with c_2 | c_2
  · rw [c_2] at hP hD
    rw [c_2]
    have hP : va_P D vwCl [(h_cs, .inl (k_cs, 36, .inl cs)), (h_S, .inr (11, [h_S_0, h_S_1, .ref h_cs, h_S_3, h_S_4, .int n, h_S_6, h_S_7, h_S_8, h_S_9]))] H := hP
    have hD : va_D A [(h_cs, .inl (k_cs, 36, .inl cs)), (h_S, .inr (11, [h_S_0, h_S_1, .ref h_cs, h_S_3, h_S_4, .int n, h_S_6, h_S_7, h_S_8, h_S_9]))] := hD
    have hK : va_K D vwCl [(k_cs, .int)] s := hK
    rw [if_pos c_2] at hM
    refine W.eq (g2 := F0 m 6 ls [.null]) rfl ?_
    refine lv_astore_nN (lv' := [(3, .null), (0, .ref h_S), (1, .int a1), (2, .int a2)]) hx hb dX8_againstClosing_6 rfl hl (by decide) rfl (fun ls hl => ?_)
    refine lv_aload_nN hx hb dX8_againstClosing_7 rfl (lv_at hl 0 rfl) ?_
    refine lv_ifnullN (tgt := 13) hx hb dX8_againstClosing_8 (by decide) ?_
    refine lv_aload_n hx hb dX8_againstClosing_13 rfl (lv_at hl 1 rfl) ?_
    refine lv_iload_n hx hb dX8_againstClosing_14 rfl (lv_at hl 2 rfl) ?_
    refine lv_iload_n hx hb dX8_againstClosing_15 rfl (lv_at hl 3 rfl) ?_
    obtain ⟨y9, hy9⟩ : ∃ y9, (F_X8_costBetween cs a1 a2) = y9 := ⟨_, rfl⟩
    have hcon := (c_X8_costBetween l hl0 D ad H.size h_cs h_S k_cs (h_S_0) (h_S_1) (h_S_3) (h_S_4) (.int n) (h_S_6) (h_S_7) (h_S_8) (h_S_9) cs a1 a2)
    rw [hy9] at hcon
    refine kr_ (va_runV (As := [.int a1, .int a2]) (rest := []) ⟨hx, hb, hml, hown, hts⟩ hcon (cwV 2 hts gX8_againstClosing_X8_costBetween rfl rfl rfl (by decide +kernel) ⟨Nat.le_of_ble_eq_true rfl, Nat.le_of_ble_eq_true rfl⟩) ⟨PR_.blind, va_recv hK hP (ci := 11) (q0 := 1) rfl rfl, PR_.pre hF hK (hP.sub [0, 1] rfl) hS hA [0] rfl⟩ rfl rfl hl.1 rfl (lv_room (Nat.le_of_ble_eq_true rfl)) dX8_againstClosing_16 ⟨(Nat.le_of_ble_eq_true rfl), (Nat.le_of_ble_eq_true rfl)⟩) hP hS hA (fun H locs hP hS => ?_)
    subst hy9
    refine W.eq (g2 := F0 m 19 ls [.int (F_X8_costBetween cs a1 a2)]) rfl ?_
    refine lv_if_ne (tgt := 31) hx hb dX8_againstClosing_19 (by decide) (fun c_4 => ?_) (fun c_4 => ?_)
    · rw [if_neg c_4] at hM
      refine lv_null hx hb dX8_againstClosing_31 ?_
      refine W.widen (k := 2) (n := 6) (Nat.le_of_ble_eq_true rfl) (Nat.le_of_ble_eq_true rfl) ?_
      exact W.aret (v := .null) hx hb hr (Or.inl ⟨_, rfl⟩) (Or.inl rfl) (QG_.mk (fun n => [0].getD n 0) (fun _ => 0) (fun _ => 0) [0, 1] [0] hP hD hK hS (by rw [hM]; rfl) (by rw [hM]; exact Or.inl rfl) (by first | (rw [hM]; rfl) | rfl) (by decide) rfl) hS.2.2 dX8_againstClosing_32
    · rw [if_pos c_4] at hM
      refine lv_bipush (v := 6) hx hb dX8_againstClosing_22 (by decide) ?_
      refine lv_iconst (v := 0) hx hb dX8_againstClosing_24 (by decide) ?_
      refine kc_ (wc := []) (wr := [(h_cs, .inl (k_cs, 36, .inl cs)), (h_S, .inr (11, [h_S_0, h_S_1, .ref h_cs, h_S_3, h_S_4, .int n, h_S_6, h_S_7, h_S_8, h_S_9]))]) (va_runS (As := [.int 6, .int 0]) (rest := []) ⟨hx, hb, hml, hown, hts⟩ (c_X8_because l hl0 D ad H.size 6 0) (va_cwS 2 hts gX8_againstClosing_X8_because rfl rfl rfl (by decide +kernel) ⟨Nat.le_of_ble_eq_true rfl, Nat.le_of_ble_eq_true rfl⟩) ⟨PC_.blind, PC_.pre hF hK hP hD hS hA [] [] rfl (by decide) rfl⟩ rfl rfl hl.1 rfl (lv_room (Nat.le_of_ble_eq_true rfl)) dX8_againstClosing_25 ⟨(Nat.le_of_ble_eq_true rfl), (Nat.le_of_ble_eq_true rfl)⟩) hK hP hD hS hA [] [0, 1] [0] rfl rfl (by decide) (by decide) rfl (fun qa_5 ka_5 ia H locs hpo hP hD hK hS => ?_)
      rcases hpo with c_6 | c_6
      · rw [c_6] at hP hD
        rw [c_6]
        have hP : va_P D vwCl [(h_cs, .inl (k_cs, 36, .inl cs)), (h_S, .inr (11, [h_S_0, h_S_1, .ref h_cs, h_S_3, h_S_4, .int n, h_S_6, h_S_7, h_S_8, h_S_9]))] H := hP
        have hD : va_D A [(h_cs, .inl (k_cs, 36, .inl cs)), (h_S, .inr (11, [h_S_0, h_S_1, .ref h_cs, h_S_3, h_S_4, .int n, h_S_6, h_S_7, h_S_8, h_S_9]))] := hD
        have hK : va_K D vwCl [(k_cs, .int)] s := hK
        rw [if_pos c_6] at hM
        refine W.eq (g2 := F0 m 28 ls [.null]) rfl ?_
        refine lv_goto (tgt := 32) hx hb dX8_againstClosing_28 (by decide) ?_
        refine W.widen (k := 2) (n := 6) (Nat.le_of_ble_eq_true rfl) (Nat.le_of_ble_eq_true rfl) ?_
        exact W.aret (v := .null) hx hb hr (Or.inl ⟨_, rfl⟩) (Or.inl rfl) (QG_.mk (fun n => [0].getD n 0) (fun _ => 0) (fun _ => 0) [0, 1] [0] hP hD hK hS (by rw [hM]; rfl) (by rw [hM]; exact Or.inl rfl) (by first | (rw [hM]; rfl) | rfl) (by decide) rfl) hS.2.2 dX8_againstClosing_32
      · rw [c_6] at hP hD
        rw [c_6]
        have hP : va_P D vwCl [(h_cs, .inl (k_cs, 36, .inl cs)), (h_S, .inr (11, [h_S_0, h_S_1, .ref h_cs, h_S_3, h_S_4, .int n, h_S_6, h_S_7, h_S_8, h_S_9])), ((qa_5 0), .inr (10, [.int (F_X8_because 6 0).2.1, .int (F_X8_because 6 0).2.2, .null]))] H := hP
        have hD : va_D A [(h_cs, .inl (k_cs, 36, .inl cs)), (h_S, .inr (11, [h_S_0, h_S_1, .ref h_cs, h_S_3, h_S_4, .int n, h_S_6, h_S_7, h_S_8, h_S_9])), ((qa_5 0), .inr (10, [.int (F_X8_because 6 0).2.1, .int (F_X8_because 6 0).2.2, .null]))] := hD
        have hK : va_K D vwCl [(k_cs, .int)] s := hK
        rw [if_neg (show ¬ (F_X8_because 6 0).1 = 0 from by rw [c_6]; decide)] at hM
        refine W.eq (g2 := F0 m 28 ls [.ref (qa_5 0)]) rfl ?_
        refine lv_goto (tgt := 32) hx hb dX8_againstClosing_28 (by decide) ?_
        refine W.widen (k := 2) (n := 6) (Nat.le_of_ble_eq_true rfl) (Nat.le_of_ble_eq_true rfl) ?_
        exact W.aret (v := .ref (qa_5 0)) hx hb hr (Or.inl ⟨_, rfl⟩) (Or.inr ⟨_, rfl⟩) (QG_.mk (fun n => [(qa_5 0)].getD n 0) (fun _ => 0) (fun _ => 0) [0, 1, 2] [0] hP hD hK hS (by rw [hM]; rfl) (by rw [hM]; exact Or.inr rfl) (by first | (rw [hM]; rfl) | rfl) (by decide) rfl) hS.2.2 dX8_againstClosing_32
  · rw [c_2] at hP hD
    rw [c_2]
    have hP : va_P D vwCl [(h_cs, .inl (k_cs, 36, .inl cs)), (h_S, .inr (11, [h_S_0, h_S_1, .ref h_cs, h_S_3, h_S_4, .int n, h_S_6, h_S_7, h_S_8, h_S_9])), ((qa_1 0), .inr (10, [.int (F_X8_againstPair n a1 a2).2.1, .int (F_X8_againstPair n a1 a2).2.2, .null]))] H := hP
    have hD : va_D A [(h_cs, .inl (k_cs, 36, .inl cs)), (h_S, .inr (11, [h_S_0, h_S_1, .ref h_cs, h_S_3, h_S_4, .int n, h_S_6, h_S_7, h_S_8, h_S_9])), ((qa_1 0), .inr (10, [.int (F_X8_againstPair n a1 a2).2.1, .int (F_X8_againstPair n a1 a2).2.2, .null]))] := hD
    have hK : va_K D vwCl [(k_cs, .int)] s := hK
    rw [if_neg (show ¬ (F_X8_againstPair n a1 a2).1 = 0 from by rw [c_2]; decide)] at hM
    refine W.eq (g2 := F0 m 6 ls [.ref (qa_1 0)]) rfl ?_
    refine lv_astore_n (lv' := [(3, .ref (qa_1 0)), (0, .ref h_S), (1, .int a1), (2, .int a2)]) hx hb dX8_againstClosing_6 rfl hl (by decide) rfl (fun ls hl => ?_)
    refine lv_aload_n hx hb dX8_againstClosing_7 rfl (lv_at hl 0 rfl) ?_
    refine lv_ifnull hx hb dX8_againstClosing_8 ?_
    refine lv_aload_n hx hb dX8_againstClosing_11 rfl (lv_at hl 0 rfl) ?_
    refine W.widen (k := 2) (n := 6) (Nat.le_of_ble_eq_true rfl) (Nat.le_of_ble_eq_true rfl) ?_
    exact W.aret (v := .ref (qa_1 0)) hx hb hr (Or.inl ⟨_, rfl⟩) (Or.inr ⟨_, rfl⟩) (QG_.mk (fun n => [(qa_1 0)].getD n 0) (fun _ => 0) (fun _ => 0) [0, 1, 2] [0] hP hD hK hS (by rw [hM]; rfl) (by rw [hM]; exact Or.inr rfl) (by first | (rw [hM]; rfl) | rfl) (by decide) rfl) hS.2.2 dX8_againstClosing_12
def F_X8_againstDistrict (ds : Nat → Int32) (n : Int32) (a1 : Int32) (a2 : Int32) : Nat × Int32 × Int32 := (if (F_X8_has n a1) = 0 then (if (F_X8_because 3 a1).1 = 0 then (0, 0, 0) else (1, (F_X8_because 3 a1).2.1, (F_X8_because 3 a1).2.2)) else (if a2 < 0 then (if (F_X8_because 1 0).1 = 0 then (0, 0, 0) else (1, (F_X8_because 1 0).2.1, (F_X8_because 1 0).2.2)) else (if a2 < 3 then (if (ds (ix a1)) = a2 then (if (F_X8_because 5 0).1 = 0 then (0, 0, 0) else (1, (F_X8_because 5 0).2.1, (F_X8_because 5 0).2.2)) else (0, 0, 0)) else (if (F_X8_because 1 0).1 = 0 then (0, 0, 0) else (1, (F_X8_because 1 0).2.1, (F_X8_because 1 0).2.2)))))
theorem R_X8_againstDistrict {ds : Nat → Int32} {n a b : Int32} (h : (F_X8_againstDistrict ds n a b).1 = 0) : 0 ≤ a.toInt ∧ a.toInt < n.toInt ∧ 0 ≤ b.toInt ∧ b.toInt < 3 ∧ ds (ix a) ≠ b := by
  have e0 : (0 : Int32).toInt = 0 := by decide +kernel
  have e3 : (3 : Int32).toInt = 3 := by decide +kernel
  unfold F_X8_againstDistrict at h
  by_cases c1 : F_X8_has n a = 0
  · rw [if_pos c1] at h; simp [F_X8_because] at h
  rw [if_neg c1] at h
  by_cases c2 : b < 0
  · rw [if_pos c2] at h; simp [F_X8_because] at h
  rw [if_neg c2] at h
  by_cases c3 : b < 3
  · rw [if_pos c3] at h
    by_cases c4 : ds (ix a) = b
    · rw [if_pos c4] at h; simp [F_X8_because] at h
    have h1 := R_X8_has c1
    have y2 := f_nlt c2
    have y3 := f_lt c3
    exact ⟨h1.1, h1.2, by omega, by omega, c4⟩
  · rw [if_neg c3] at h; simp [F_X8_because] at h
set_option maxHeartbeats 4000000 in
set_option maxRecDepth 100000 in
theorem c_X8_againstDistrict (l : Launch) (hl0 : l.stackTraces = false) (D : va_G) (ad : Nat → Nat) (sz : Nat) (h_ds : Nat) (h_S : Nat) (k_ds : ClassId) (h_S_0 : Value) (h_S_2 : Value) (h_S_3 : Value) (h_S_4 : Value) (h_S_6 : Value) (h_S_7 : Value) (h_S_8 : Value) (h_S_9 : Value) (ds : Nat → Int32) (n : Int32) (a1 : Int32) (a2 : Int32) (hy0 : n.toInt ≤ 6) : Met l yX8_againstDistrict wsX8_againstDistrict ({ frames := 3, cells := 1, slots := 3, locals := 88 }) (PC_ D ad [(h_ds, .inl (k_ds, 6, .inl ds)), (h_S, .inr (11, [h_S_0, .ref h_ds, h_S_2, h_S_3, h_S_4, .int n, h_S_6, h_S_7, h_S_8, h_S_9]))] [(k_ds, .int)] sz [.ref h_S, .int a1, .int a2]) (QG_ D (fun q i => some (rfV (F_X8_againstDistrict ds n a1 a2).1 (q 0))) (fun q i => (F_X8_againstDistrict ds n a1 a2).1 = 0 ∨ (F_X8_againstDistrict ds n a1 a2).1 = 1) (fun q k i => ([(h_ds, .inl (k_ds, 6, .inl ds)), (h_S, .inr (11, [h_S_0, .ref h_ds, h_S_2, h_S_3, h_S_4, .int n, h_S_6, h_S_7, h_S_8, h_S_9]))] ++ rfW (F_X8_againstDistrict ds n a1 a2).1 (q 0) ((F_X8_againstDistrict ds n a1 a2).2.1) ((F_X8_againstDistrict ds n a1 a2).2.2))) (fun q k i => [(k_ds, .int)]) (va_A [(h_ds, .inl (k_ds, 6, .inl ds)), (h_S, .inr (11, [h_S_0, .ref h_ds, h_S_2, h_S_3, h_S_4, .int n, h_S_6, h_S_7, h_S_8, h_S_9]))] sz)) 1 3 (va_A [(h_ds, .inl (k_ds, 6, .inl ds)), (h_S, .inr (11, [h_S_0, .ref h_ds, h_S_2, h_S_3, h_S_4, .int n, h_S_6, h_S_7, h_S_8, h_S_9]))] sz) := by
  refine Met.ofW (cc := cX8_againstDistrict) (maxL := 3) (ret := (some (.object "CanalMaps$Refusal"))) (by decide) rfl ?_
  intro p e s m args below meth c s₁ B hml hv
  obtain ⟨rfl, hsz, hP, hK, hD0, hF⟩ := hv
  have hx := B.exec
  have hb := B.bytes
  have hr := B.returns
  have hts := atoms_spec (ws := wsX8_againstDistrict) B.pre
  have hown : s.vm.findClass RX8 = some m.cls := findClass_of_methodNamed B.named
  have hlocks := B.notSynchronized
  subst hsz
  have hD := hD0.self (sz := s.heap.size)
  generalize hAe : va_A [(h_ds, .inl (k_ds, 6, .inl ds)), (h_S, .inr (11, [h_S_0, .ref h_ds, h_S_2, h_S_3, h_S_4, .int n, h_S_6, h_S_7, h_S_8, h_S_9]))] s.heap.size = A at hD hF ⊢
  have hA : ∀ q : Nat, s.heap.size ≤ q → A q := fun q h => by rw [← hAe]; exact Or.inr h
  obtain ⟨H, hHe⟩ : ∃ H : Heap, H = s.heap := ⟨_, rfl⟩
  have hS : va_S A s.heap H [] := by rw [hHe]; exact va_S.rf
  have hP : va_P D vwCl [(h_ds, .inl (k_ds, 6, .inl ds)), (h_S, .inr (11, [h_S_0, .ref h_ds, h_S_2, h_S_3, h_S_4, .int n, h_S_6, h_S_7, h_S_8, h_S_9]))] H := by rw [hHe]; exact hP
  rw [← hHe]
  have hi_X8 : ∀ w ∈ wsX80, w ∈ wsX8_againstDistrict := by decide +kernel
  have hl := lv_entry [.ref h_S, .int a1, .int a2] (n := 3) (Nat.le_of_ble_eq_true rfl)
  rw [lg_entry_eq]
  generalize (lg_sl [.ref h_S, .int a1, .int a2] ++ List.replicate (3 - (lg_sl [.ref h_S, .int a1, .int a2]).length) Slot.unset).toArray = ls at hl ⊢
  have hl : lv_has ls 3 [(0, .ref h_S), (1, .int a1), (2, .int a2)] := hl
  have hM : F_X8_againstDistrict ds n a1 a2 = (if (F_X8_has n a1) = 0 then (if (F_X8_because 3 a1).1 = 0 then (0, 0, 0) else (1, (F_X8_because 3 a1).2.1, (F_X8_because 3 a1).2.2)) else (if a2 < 0 then (if (F_X8_because 1 0).1 = 0 then (0, 0, 0) else (1, (F_X8_because 1 0).2.1, (F_X8_because 1 0).2.2)) else (if a2 < 3 then (if (ds (ix a1)) = a2 then (if (F_X8_because 5 0).1 = 0 then (0, 0, 0) else (1, (F_X8_because 5 0).2.1, (F_X8_because 5 0).2.2)) else (0, 0, 0)) else (if (F_X8_because 1 0).1 = 0 then (0, 0, 0) else (1, (F_X8_because 1 0).2.1, (F_X8_because 1 0).2.2))))) := rfl
  refine lv_aload_n hx hb dX8_againstDistrict_0 rfl (lv_at hl 0 rfl) ?_
  refine lv_iload_n hx hb dX8_againstDistrict_1 rfl (lv_at hl 1 rfl) ?_
  obtain ⟨y9, hy9⟩ : ∃ y9, (F_X8_has n a1) = y9 := ⟨_, rfl⟩
  have hcon := (c_X8_has l hl0 D ad H.size h_S (h_S_0) (.ref h_ds) (h_S_2) (h_S_3) (h_S_4) (h_S_6) (h_S_7) (h_S_8) (h_S_9) n a1)
  rw [hy9] at hcon
  refine kr_ (va_runV (As := [.int a1]) (rest := []) ⟨hx, hb, hml, hown, hts⟩ hcon (cwV 1 hts gX8_againstDistrict_X8_has rfl rfl rfl (by decide +kernel) ⟨Nat.le_of_ble_eq_true rfl, Nat.le_of_ble_eq_true rfl⟩) ⟨PR_.blind, va_recv hK hP (ci := 11) (q0 := 1) rfl rfl, PR_.pre hF hK (hP.sub [1] rfl) hS hA [] rfl⟩ rfl rfl hl.1 rfl (lv_room (Nat.le_of_ble_eq_true rfl)) dX8_againstDistrict_2 ⟨(Nat.le_of_ble_eq_true rfl), (Nat.le_of_ble_eq_true rfl)⟩) hP hS hA (fun H locs hP hS => ?_)
  subst hy9
  refine W.eq (g2 := F0 m 5 ls [.int (F_X8_has n a1)]) rfl ?_
  refine lv_if_ne (tgt := 14) hx hb dX8_againstDistrict_5 (by decide) (fun c_2 => ?_) (fun c_2 => ?_)
  · rw [if_neg c_2] at hM
    refine lv_iload_n hx hb dX8_againstDistrict_14 rfl (lv_at hl 2 rfl) ?_
    refine lv_if_lt (tgt := 23) hx hb dX8_againstDistrict_15 (by decide) (fun c_3 => ?_) (fun c_3 => ?_)
    · rw [if_pos c_3] at hM
      refine lv_iconst (v := 1) hx hb dX8_againstDistrict_23 (by decide) ?_
      refine lv_iconst (v := 0) hx hb dX8_againstDistrict_24 (by decide) ?_
      refine kc_ (wc := []) (wr := [(h_ds, .inl (k_ds, 6, .inl ds)), (h_S, .inr (11, [h_S_0, .ref h_ds, h_S_2, h_S_3, h_S_4, .int n, h_S_6, h_S_7, h_S_8, h_S_9]))]) (va_runS (As := [.int 1, .int 0]) (rest := []) ⟨hx, hb, hml, hown, hts⟩ (c_X8_because l hl0 D ad H.size 1 0) (va_cwS 2 hts gX8_againstDistrict_X8_because rfl rfl rfl (by decide +kernel) ⟨Nat.le_of_ble_eq_true rfl, Nat.le_of_ble_eq_true rfl⟩) ⟨PC_.blind, PC_.pre hF hK hP hD hS hA [] [] rfl (by decide) rfl⟩ rfl rfl hl.1 rfl (lv_room (Nat.le_of_ble_eq_true rfl)) dX8_againstDistrict_25 ⟨(Nat.le_of_ble_eq_true rfl), (Nat.le_of_ble_eq_true rfl)⟩) hK hP hD hS hA [] [0, 1] [0] rfl rfl (by decide) (by decide) rfl (fun qa_4 ka_4 ia H locs hpo hP hD hK hS => ?_)
      rcases hpo with c_5 | c_5
      · rw [c_5] at hP hD
        rw [c_5]
        have hP : va_P D vwCl [(h_ds, .inl (k_ds, 6, .inl ds)), (h_S, .inr (11, [h_S_0, .ref h_ds, h_S_2, h_S_3, h_S_4, .int n, h_S_6, h_S_7, h_S_8, h_S_9]))] H := hP
        have hD : va_D A [(h_ds, .inl (k_ds, 6, .inl ds)), (h_S, .inr (11, [h_S_0, .ref h_ds, h_S_2, h_S_3, h_S_4, .int n, h_S_6, h_S_7, h_S_8, h_S_9]))] := hD
        have hK : va_K D vwCl [(k_ds, .int)] s := hK
        rw [if_pos c_5] at hM
        refine W.eq (g2 := F0 m 28 ls [.null]) rfl ?_
        refine W.widen (k := 1) (n := 3) (Nat.le_of_ble_eq_true rfl) (Nat.le_of_ble_eq_true rfl) ?_
        exact W.aret (v := .null) hx hb hr (Or.inl ⟨_, rfl⟩) (Or.inl rfl) (QG_.mk (fun n => [0].getD n 0) (fun _ => 0) (fun _ => 0) [0, 1] [0] hP hD hK hS (by rw [hM]; rfl) (by rw [hM]; exact Or.inl rfl) (by first | (rw [hM]; rfl) | rfl) (by decide) rfl) hS.2.2 dX8_againstDistrict_28
      · rw [c_5] at hP hD
        rw [c_5]
        have hP : va_P D vwCl [(h_ds, .inl (k_ds, 6, .inl ds)), (h_S, .inr (11, [h_S_0, .ref h_ds, h_S_2, h_S_3, h_S_4, .int n, h_S_6, h_S_7, h_S_8, h_S_9])), ((qa_4 0), .inr (10, [.int (F_X8_because 1 0).2.1, .int (F_X8_because 1 0).2.2, .null]))] H := hP
        have hD : va_D A [(h_ds, .inl (k_ds, 6, .inl ds)), (h_S, .inr (11, [h_S_0, .ref h_ds, h_S_2, h_S_3, h_S_4, .int n, h_S_6, h_S_7, h_S_8, h_S_9])), ((qa_4 0), .inr (10, [.int (F_X8_because 1 0).2.1, .int (F_X8_because 1 0).2.2, .null]))] := hD
        have hK : va_K D vwCl [(k_ds, .int)] s := hK
        rw [if_neg (show ¬ (F_X8_because 1 0).1 = 0 from by rw [c_5]; decide)] at hM
        refine W.eq (g2 := F0 m 28 ls [.ref (qa_4 0)]) rfl ?_
        refine W.widen (k := 1) (n := 3) (Nat.le_of_ble_eq_true rfl) (Nat.le_of_ble_eq_true rfl) ?_
        exact W.aret (v := .ref (qa_4 0)) hx hb hr (Or.inl ⟨_, rfl⟩) (Or.inr ⟨_, rfl⟩) (QG_.mk (fun n => [(qa_4 0)].getD n 0) (fun _ => 0) (fun _ => 0) [0, 1, 2] [0] hP hD hK hS (by rw [hM]; rfl) (by rw [hM]; exact Or.inr rfl) (by first | (rw [hM]; rfl) | rfl) (by decide) rfl) hS.2.2 dX8_againstDistrict_28
    · rw [if_neg c_3] at hM
      refine lv_iload_n hx hb dX8_againstDistrict_18 rfl (lv_at hl 2 rfl) ?_
      refine lv_iconst (v := 3) hx hb dX8_againstDistrict_19 (by decide) ?_
      refine lv_icmp_lt (tgt := 29) hx hb dX8_againstDistrict_20 (by decide) (fun c_6 => ?_) (fun c_6 => ?_)
      · rw [if_pos c_6] at hM
        refine lv_aload_n hx hb dX8_againstDistrict_29 rfl (lv_at hl 0 rfl) ?_
        refine va_get (D := D) (ci := 11) (v := .ref h_ds) (own := RX8) (C := RX8) (T := TX8) (N := 10) hx hb hts hi_X8 hown hK hP 1 rfl rfl 1 (by decide) (hts (.fieldLink RX8 9 "CanalMaps$Survey" "districts" "[I") (List.mem_of_getElem? (i := 1) (by decide +kernel))) (fun _ h9 => h9) rfl dX8_againstDistrict_30 ?_
        refine lv_iload_n hx hb dX8_againstDistrict_33 rfl (lv_at hl 1 rfl) ?_
        refine va_iald hx hb hK hP 0 0 rfl rfl (vinI (by have y0 := R_X8_has c_2; have y1 := f_nlt c_3; have y2 := f_lt c_6; have z0 := hy0; have e_0 : (0 : Int32).toInt = 0 := (by decide +kernel); have e_3 : (3 : Int32).toInt = 3 := (by decide +kernel); have b4 := Int32.toInt_lt (a1); have d4 := Int32.le_toInt (a1); omega) (by have y0 := R_X8_has c_2; have y1 := f_nlt c_3; have y2 := f_lt c_6; have z0 := hy0; have e_0 : (0 : Int32).toInt = 0 := (by decide +kernel); have e_3 : (3 : Int32).toInt = 3 := (by decide +kernel); have b4 := Int32.toInt_lt (a1); have d4 := Int32.le_toInt (a1); omega)) dX8_againstDistrict_34 ?_
        refine kt_ (v := (ds (ix a1))) rfl ?_
        refine lv_iload_n hx hb dX8_againstDistrict_35 rfl (lv_at hl 2 rfl) ?_
        refine lv_icmp_ne (tgt := 47) hx hb dX8_againstDistrict_36 (by decide) (fun c_7 => ?_) (fun c_7 => ?_)
        · rw [if_neg c_7] at hM
          refine lv_null hx hb dX8_againstDistrict_47 ?_
          refine W.widen (k := 1) (n := 3) (Nat.le_of_ble_eq_true rfl) (Nat.le_of_ble_eq_true rfl) ?_
          exact W.aret (v := .null) hx hb hr (Or.inl ⟨_, rfl⟩) (Or.inl rfl) (QG_.mk (fun n => [0].getD n 0) (fun _ => 0) (fun _ => 0) [0, 1] [0] hP hD hK hS (by rw [hM]; rfl) (by rw [hM]; exact Or.inl rfl) (by first | (rw [hM]; rfl) | rfl) (by decide) rfl) hS.2.2 dX8_againstDistrict_48
        · rw [if_pos c_7] at hM
          refine lv_iconst (v := 5) hx hb dX8_againstDistrict_39 (by decide) ?_
          refine lv_iconst (v := 0) hx hb dX8_againstDistrict_40 (by decide) ?_
          refine kc_ (wc := []) (wr := [(h_ds, .inl (k_ds, 6, .inl ds)), (h_S, .inr (11, [h_S_0, .ref h_ds, h_S_2, h_S_3, h_S_4, .int n, h_S_6, h_S_7, h_S_8, h_S_9]))]) (va_runS (As := [.int 5, .int 0]) (rest := []) ⟨hx, hb, hml, hown, hts⟩ (c_X8_because l hl0 D ad H.size 5 0) (va_cwS 2 hts gX8_againstDistrict_X8_because rfl rfl rfl (by decide +kernel) ⟨Nat.le_of_ble_eq_true rfl, Nat.le_of_ble_eq_true rfl⟩) ⟨PC_.blind, PC_.pre hF hK hP hD hS hA [] [] rfl (by decide) rfl⟩ rfl rfl hl.1 rfl (lv_room (Nat.le_of_ble_eq_true rfl)) dX8_againstDistrict_41 ⟨(Nat.le_of_ble_eq_true rfl), (Nat.le_of_ble_eq_true rfl)⟩) hK hP hD hS hA [] [0, 1] [0] rfl rfl (by decide) (by decide) rfl (fun qa_8 ka_8 ia H locs hpo hP hD hK hS => ?_)
          rcases hpo with c_9 | c_9
          · rw [c_9] at hP hD
            rw [c_9]
            have hP : va_P D vwCl [(h_ds, .inl (k_ds, 6, .inl ds)), (h_S, .inr (11, [h_S_0, .ref h_ds, h_S_2, h_S_3, h_S_4, .int n, h_S_6, h_S_7, h_S_8, h_S_9]))] H := hP
            have hD : va_D A [(h_ds, .inl (k_ds, 6, .inl ds)), (h_S, .inr (11, [h_S_0, .ref h_ds, h_S_2, h_S_3, h_S_4, .int n, h_S_6, h_S_7, h_S_8, h_S_9]))] := hD
            have hK : va_K D vwCl [(k_ds, .int)] s := hK
            rw [if_pos c_9] at hM
            refine W.eq (g2 := F0 m 44 ls [.null]) rfl ?_
            refine lv_goto (tgt := 48) hx hb dX8_againstDistrict_44 (by decide) ?_
            refine W.widen (k := 1) (n := 3) (Nat.le_of_ble_eq_true rfl) (Nat.le_of_ble_eq_true rfl) ?_
            exact W.aret (v := .null) hx hb hr (Or.inl ⟨_, rfl⟩) (Or.inl rfl) (QG_.mk (fun n => [0].getD n 0) (fun _ => 0) (fun _ => 0) [0, 1] [0] hP hD hK hS (by rw [hM]; rfl) (by rw [hM]; exact Or.inl rfl) (by first | (rw [hM]; rfl) | rfl) (by decide) rfl) hS.2.2 dX8_againstDistrict_48
          · rw [c_9] at hP hD
            rw [c_9]
            have hP : va_P D vwCl [(h_ds, .inl (k_ds, 6, .inl ds)), (h_S, .inr (11, [h_S_0, .ref h_ds, h_S_2, h_S_3, h_S_4, .int n, h_S_6, h_S_7, h_S_8, h_S_9])), ((qa_8 0), .inr (10, [.int (F_X8_because 5 0).2.1, .int (F_X8_because 5 0).2.2, .null]))] H := hP
            have hD : va_D A [(h_ds, .inl (k_ds, 6, .inl ds)), (h_S, .inr (11, [h_S_0, .ref h_ds, h_S_2, h_S_3, h_S_4, .int n, h_S_6, h_S_7, h_S_8, h_S_9])), ((qa_8 0), .inr (10, [.int (F_X8_because 5 0).2.1, .int (F_X8_because 5 0).2.2, .null]))] := hD
            have hK : va_K D vwCl [(k_ds, .int)] s := hK
            rw [if_neg (show ¬ (F_X8_because 5 0).1 = 0 from by rw [c_9]; decide)] at hM
            refine W.eq (g2 := F0 m 44 ls [.ref (qa_8 0)]) rfl ?_
            refine lv_goto (tgt := 48) hx hb dX8_againstDistrict_44 (by decide) ?_
            refine W.widen (k := 1) (n := 3) (Nat.le_of_ble_eq_true rfl) (Nat.le_of_ble_eq_true rfl) ?_
            exact W.aret (v := .ref (qa_8 0)) hx hb hr (Or.inl ⟨_, rfl⟩) (Or.inr ⟨_, rfl⟩) (QG_.mk (fun n => [(qa_8 0)].getD n 0) (fun _ => 0) (fun _ => 0) [0, 1, 2] [0] hP hD hK hS (by rw [hM]; rfl) (by rw [hM]; exact Or.inr rfl) (by first | (rw [hM]; rfl) | rfl) (by decide) rfl) hS.2.2 dX8_againstDistrict_48
      · rw [if_neg c_6] at hM
        refine lv_iconst (v := 1) hx hb dX8_againstDistrict_23 (by decide) ?_
        refine lv_iconst (v := 0) hx hb dX8_againstDistrict_24 (by decide) ?_
        refine kc_ (wc := []) (wr := [(h_ds, .inl (k_ds, 6, .inl ds)), (h_S, .inr (11, [h_S_0, .ref h_ds, h_S_2, h_S_3, h_S_4, .int n, h_S_6, h_S_7, h_S_8, h_S_9]))]) (va_runS (As := [.int 1, .int 0]) (rest := []) ⟨hx, hb, hml, hown, hts⟩ (c_X8_because l hl0 D ad H.size 1 0) (va_cwS 2 hts gX8_againstDistrict_X8_because rfl rfl rfl (by decide +kernel) ⟨Nat.le_of_ble_eq_true rfl, Nat.le_of_ble_eq_true rfl⟩) ⟨PC_.blind, PC_.pre hF hK hP hD hS hA [] [] rfl (by decide) rfl⟩ rfl rfl hl.1 rfl (lv_room (Nat.le_of_ble_eq_true rfl)) dX8_againstDistrict_25 ⟨(Nat.le_of_ble_eq_true rfl), (Nat.le_of_ble_eq_true rfl)⟩) hK hP hD hS hA [] [0, 1] [0] rfl rfl (by decide) (by decide) rfl (fun qa_10 ka_10 ia H locs hpo hP hD hK hS => ?_)
        rcases hpo with c_11 | c_11
        · rw [c_11] at hP hD
          rw [c_11]
          have hP : va_P D vwCl [(h_ds, .inl (k_ds, 6, .inl ds)), (h_S, .inr (11, [h_S_0, .ref h_ds, h_S_2, h_S_3, h_S_4, .int n, h_S_6, h_S_7, h_S_8, h_S_9]))] H := hP
          have hD : va_D A [(h_ds, .inl (k_ds, 6, .inl ds)), (h_S, .inr (11, [h_S_0, .ref h_ds, h_S_2, h_S_3, h_S_4, .int n, h_S_6, h_S_7, h_S_8, h_S_9]))] := hD
          have hK : va_K D vwCl [(k_ds, .int)] s := hK
          rw [if_pos c_11] at hM
          refine W.eq (g2 := F0 m 28 ls [.null]) rfl ?_
          refine W.widen (k := 1) (n := 3) (Nat.le_of_ble_eq_true rfl) (Nat.le_of_ble_eq_true rfl) ?_
          exact W.aret (v := .null) hx hb hr (Or.inl ⟨_, rfl⟩) (Or.inl rfl) (QG_.mk (fun n => [0].getD n 0) (fun _ => 0) (fun _ => 0) [0, 1] [0] hP hD hK hS (by rw [hM]; rfl) (by rw [hM]; exact Or.inl rfl) (by first | (rw [hM]; rfl) | rfl) (by decide) rfl) hS.2.2 dX8_againstDistrict_28
        · rw [c_11] at hP hD
          rw [c_11]
          have hP : va_P D vwCl [(h_ds, .inl (k_ds, 6, .inl ds)), (h_S, .inr (11, [h_S_0, .ref h_ds, h_S_2, h_S_3, h_S_4, .int n, h_S_6, h_S_7, h_S_8, h_S_9])), ((qa_10 0), .inr (10, [.int (F_X8_because 1 0).2.1, .int (F_X8_because 1 0).2.2, .null]))] H := hP
          have hD : va_D A [(h_ds, .inl (k_ds, 6, .inl ds)), (h_S, .inr (11, [h_S_0, .ref h_ds, h_S_2, h_S_3, h_S_4, .int n, h_S_6, h_S_7, h_S_8, h_S_9])), ((qa_10 0), .inr (10, [.int (F_X8_because 1 0).2.1, .int (F_X8_because 1 0).2.2, .null]))] := hD
          have hK : va_K D vwCl [(k_ds, .int)] s := hK
          rw [if_neg (show ¬ (F_X8_because 1 0).1 = 0 from by rw [c_11]; decide)] at hM
          refine W.eq (g2 := F0 m 28 ls [.ref (qa_10 0)]) rfl ?_
          refine W.widen (k := 1) (n := 3) (Nat.le_of_ble_eq_true rfl) (Nat.le_of_ble_eq_true rfl) ?_
          exact W.aret (v := .ref (qa_10 0)) hx hb hr (Or.inl ⟨_, rfl⟩) (Or.inr ⟨_, rfl⟩) (QG_.mk (fun n => [(qa_10 0)].getD n 0) (fun _ => 0) (fun _ => 0) [0, 1, 2] [0] hP hD hK hS (by rw [hM]; rfl) (by rw [hM]; exact Or.inr rfl) (by first | (rw [hM]; rfl) | rfl) (by decide) rfl) hS.2.2 dX8_againstDistrict_28
  · rw [if_pos c_2] at hM
    refine lv_iconst (v := 3) hx hb dX8_againstDistrict_8 (by decide) ?_
    refine lv_iload_n hx hb dX8_againstDistrict_9 rfl (lv_at hl 1 rfl) ?_
    refine kc_ (wc := []) (wr := [(h_ds, .inl (k_ds, 6, .inl ds)), (h_S, .inr (11, [h_S_0, .ref h_ds, h_S_2, h_S_3, h_S_4, .int n, h_S_6, h_S_7, h_S_8, h_S_9]))]) (va_runS (As := [.int 3, .int a1]) (rest := []) ⟨hx, hb, hml, hown, hts⟩ (c_X8_because l hl0 D ad H.size 3 a1) (va_cwS 2 hts gX8_againstDistrict_X8_because rfl rfl rfl (by decide +kernel) ⟨Nat.le_of_ble_eq_true rfl, Nat.le_of_ble_eq_true rfl⟩) ⟨PC_.blind, PC_.pre hF hK hP hD hS hA [] [] rfl (by decide) rfl⟩ rfl rfl hl.1 rfl (lv_room (Nat.le_of_ble_eq_true rfl)) dX8_againstDistrict_10 ⟨(Nat.le_of_ble_eq_true rfl), (Nat.le_of_ble_eq_true rfl)⟩) hK hP hD hS hA [] [0, 1] [0] rfl rfl (by decide) (by decide) rfl (fun qa_12 ka_12 ia H locs hpo hP hD hK hS => ?_)
    rcases hpo with c_13 | c_13
    · rw [c_13] at hP hD
      rw [c_13]
      have hP : va_P D vwCl [(h_ds, .inl (k_ds, 6, .inl ds)), (h_S, .inr (11, [h_S_0, .ref h_ds, h_S_2, h_S_3, h_S_4, .int n, h_S_6, h_S_7, h_S_8, h_S_9]))] H := hP
      have hD : va_D A [(h_ds, .inl (k_ds, 6, .inl ds)), (h_S, .inr (11, [h_S_0, .ref h_ds, h_S_2, h_S_3, h_S_4, .int n, h_S_6, h_S_7, h_S_8, h_S_9]))] := hD
      have hK : va_K D vwCl [(k_ds, .int)] s := hK
      rw [if_pos c_13] at hM
      refine W.eq (g2 := F0 m 13 ls [.null]) rfl ?_
      refine W.widen (k := 1) (n := 3) (Nat.le_of_ble_eq_true rfl) (Nat.le_of_ble_eq_true rfl) ?_
      exact W.aret (v := .null) hx hb hr (Or.inl ⟨_, rfl⟩) (Or.inl rfl) (QG_.mk (fun n => [0].getD n 0) (fun _ => 0) (fun _ => 0) [0, 1] [0] hP hD hK hS (by rw [hM]; rfl) (by rw [hM]; exact Or.inl rfl) (by first | (rw [hM]; rfl) | rfl) (by decide) rfl) hS.2.2 dX8_againstDistrict_13
    · rw [c_13] at hP hD
      rw [c_13]
      have hP : va_P D vwCl [(h_ds, .inl (k_ds, 6, .inl ds)), (h_S, .inr (11, [h_S_0, .ref h_ds, h_S_2, h_S_3, h_S_4, .int n, h_S_6, h_S_7, h_S_8, h_S_9])), ((qa_12 0), .inr (10, [.int (F_X8_because 3 a1).2.1, .int (F_X8_because 3 a1).2.2, .null]))] H := hP
      have hD : va_D A [(h_ds, .inl (k_ds, 6, .inl ds)), (h_S, .inr (11, [h_S_0, .ref h_ds, h_S_2, h_S_3, h_S_4, .int n, h_S_6, h_S_7, h_S_8, h_S_9])), ((qa_12 0), .inr (10, [.int (F_X8_because 3 a1).2.1, .int (F_X8_because 3 a1).2.2, .null]))] := hD
      have hK : va_K D vwCl [(k_ds, .int)] s := hK
      rw [if_neg (show ¬ (F_X8_because 3 a1).1 = 0 from by rw [c_13]; decide)] at hM
      refine W.eq (g2 := F0 m 13 ls [.ref (qa_12 0)]) rfl ?_
      refine W.widen (k := 1) (n := 3) (Nat.le_of_ble_eq_true rfl) (Nat.le_of_ble_eq_true rfl) ?_
      exact W.aret (v := .ref (qa_12 0)) hx hb hr (Or.inl ⟨_, rfl⟩) (Or.inr ⟨_, rfl⟩) (QG_.mk (fun n => [(qa_12 0)].getD n 0) (fun _ => 0) (fun _ => 0) [0, 1, 2] [0] hP hD hK hS (by rw [hM]; rfl) (by rw [hM]; exact Or.inr rfl) (by first | (rw [hM]; rfl) | rfl) (by decide) rfl) hS.2.2 dX8_againstDistrict_13
