def F_J4_append_cf468 (wb : Nat → Int32) (capw : Nat) (wn : Int32) (a1 : Int32) : Nat × (Nat → Int32) × Int32 × Nat × Nat := ((F_J5_append_3fe6f wb capw wn a1).1, ((F_J5_append_3fe6f wb capw wn a1).2.1), (F_J5_append_3fe6f wb capw wn a1).2.2.1, (0 + (F_J5_append_3fe6f wb capw wn a1).2.2.2.1), (0 + (F_J5_append_3fe6f wb capw wn a1).2.2.2.2))
set_option maxHeartbeats 4000000 in
set_option maxRecDepth 100000 in
theorem c_J4_append_cf468 (l : Launch) (hl0 : l.stackTraces = false) (D : va_G) (ad : Nat → Nat) (sz : Nat) (h_wb : Nat) (h_B : Nat) (k_wb : ClassId) (h_B_2 : Value) (capw : Nat) (wb : Nat → Int32) (wn : Int32) (a1 : Int32) (hy0 : sb_Fit wb) (hy1 : 0 ≤ wn.toInt) (hy2 : wn.toInt ≤ capw) (hy3 : wn.toInt ≤ 5000) (hy4 : capw ≤ 20000) (hy5 : 16 ≤ capw) (hy6 : (ci_ a1).toInt ≤ 255) (hy7 : wn.toInt < 5000) : Met l yJ4_append_cf468 wsJ4_append_cf468 ({ frames := 5, cells := (F_J4_append_cf468 wb capw wn a1).2.2.2.1, slots := (F_J4_append_cf468 wb capw wn a1).2.2.2.2, locals := 139 }) (PC_ D ad [(h_wb, .inl (k_wb, capw, .inl wb)), (h_B, .inr (1, [.ref h_wb, .int 0, h_B_2, .int wn]))] [(k_wb, .byte)] sz [.ref h_B, .int (ci_ a1)]) (QG_ D (fun q i => some (.ref h_B)) (fun q i => sb_Fit ((F_J4_append_cf468 wb capw wn a1).2.1) ∧ ((F_J4_append_cf468 wb capw wn a1).2.2.1).toInt = wn.toInt + 1 ∧ ((F_J4_append_cf468 wb capw wn a1).2.2.1).toInt ≤ ((F_J4_append_cf468 wb capw wn a1).1) ∧ 16 ≤ ((F_J4_append_cf468 wb capw wn a1).1) ∧ capw ≤ ((F_J4_append_cf468 wb capw wn a1).1) ∧ ((F_J4_append_cf468 wb capw wn a1).1) ≤ 20000) (fun q k i => [((q 0), .inl ((k 0), (F_J4_append_cf468 wb capw wn a1).1, .inl (F_J4_append_cf468 wb capw wn a1).2.1)), (h_B, .inr (1, [.ref (q 0), .int 0, h_B_2, .int (F_J4_append_cf468 wb capw wn a1).2.2.1]))]) (fun q k i => [((k 0), .byte)]) (va_A [(h_wb, .inl (k_wb, capw, .inl wb)), (h_B, .inr (1, [.ref h_wb, .int 0, h_B_2, .int wn]))] sz)) (F_J4_append_cf468 wb capw wn a1).2.2.2.1 (F_J4_append_cf468 wb capw wn a1).2.2.2.2 (va_A [(h_wb, .inl (k_wb, capw, .inl wb)), (h_B, .inr (1, [.ref h_wb, .int 0, h_B_2, .int wn]))] sz) := by
  refine Met.ofW (cc := cJ4_append_cf468) (maxL := 2) (ret := (some (.object "java/lang/StringBuilder"))) (by decide) rfl ?_
  intro p e s m args below meth c s₁ B hml hv
  obtain ⟨rfl, hsz, hP, hK, hD0, hF⟩ := hv
  have hx := B.exec
  have hb := B.bytes
  have hr := B.returns
  have hts := atoms_spec (ws := wsJ4_append_cf468) B.pre
  have hown : s.vm.findClass RJ4 = some m.cls := findClass_of_methodNamed B.named
  have hlocks := B.notSynchronized
  subst hsz
  have hD := hD0.self (sz := s.heap.size)
  generalize hAe : va_A [(h_wb, .inl (k_wb, capw, .inl wb)), (h_B, .inr (1, [.ref h_wb, .int 0, h_B_2, .int wn]))] s.heap.size = A at hD hF ⊢
  have hA : ∀ q : Nat, s.heap.size ≤ q → A q := fun q h => by rw [← hAe]; exact Or.inr h
  obtain ⟨H, hHe⟩ : ∃ H : Heap, H = s.heap := ⟨_, rfl⟩
  have hS : va_S A s.heap H [] := by rw [hHe]; exact va_S.rf
  have hP : va_P D vwCl [(h_wb, .inl (k_wb, capw, .inl wb)), (h_B, .inr (1, [.ref h_wb, .int 0, h_B_2, .int wn]))] H := by rw [hHe]; exact hP
  rw [← hHe]
  have hl := lv_entry [.ref h_B, .int (ci_ a1)] (n := 2) (Nat.le_of_ble_eq_true rfl)
  rw [lg_entry_eq]
  generalize (lg_sl [.ref h_B, .int (ci_ a1)] ++ List.replicate (2 - (lg_sl [.ref h_B, .int (ci_ a1)]).length) Slot.unset).toArray = ls at hl ⊢
  have hl : lv_has ls 2 [(0, .ref h_B), (1, .int (ci_ a1))] := hl
  generalize hF9 : F_J4_append_cf468 wb capw wn a1 = FF9
  have hM : FF9 = ((F_J5_append_3fe6f wb capw wn a1).1, ((F_J5_append_3fe6f wb capw wn a1).2.1), (F_J5_append_3fe6f wb capw wn a1).2.2.1, (0 + (F_J5_append_3fe6f wb capw wn a1).2.2.2.1), (0 + (F_J5_append_3fe6f wb capw wn a1).2.2.2.2)) := hF9.symm
  refine lv_aload_n hx hb dJ4_append_cf468_0 rfl (lv_at hl 0 rfl) ?_
  refine lv_iload_n hx hb dJ4_append_cf468_1 rfl (lv_at hl 1 rfl) ?_
  refine kc_ (wc := [(h_wb, .inl (k_wb, capw, .inl wb)), (h_B, .inr (1, [.ref h_wb, .int 0, h_B_2, .int wn]))]) (wr := []) (va_runSU (hK.1 1 _ rfl).2 (As := [.int (ci_ a1)]) (rest := []) ⟨hx, hb, hml, hown, hts⟩ (c_J5_append_3fe6f l hl0 D ad H.size h_wb h_B k_wb (h_B_2) capw wb wn a1 hy0 (by have z1 := hy1; have z2 := hy2; have z3 := hy3; have z4 := hy4; have z5 := hy5; have z6 := hy6; have z7 := hy7; omega) (by have z1 := hy1; have z2 := hy2; have z3 := hy3; have z4 := hy4; have z5 := hy5; have z6 := hy6; have z7 := hy7; omega) (by have z1 := hy1; have z2 := hy2; have z3 := hy3; have z4 := hy4; have z5 := hy5; have z6 := hy6; have z7 := hy7; omega) (by have z1 := hy1; have z2 := hy2; have z3 := hy3; have z4 := hy4; have z5 := hy5; have z6 := hy6; have z7 := hy7; omega) (by have z1 := hy1; have z2 := hy2; have z3 := hy3; have z4 := hy4; have z5 := hy5; have z6 := hy6; have z7 := hy7; omega) (by have z1 := hy1; have z2 := hy2; have z3 := hy3; have z4 := hy4; have z5 := hy5; have z6 := hy6; have z7 := hy7; have rci := ci_r a1; omega) (by have z1 := hy1; have z2 := hy2; have z3 := hy3; have z4 := hy4; have z5 := hy5; have z6 := hy6; have z7 := hy7; omega)) (va_cwSU 1 hts gJ4_append_cf468_J5_append_3fe6f_s50 rfl rfl rfl (by decide +kernel) ⟨Nat.le_of_ble_eq_true rfl, Nat.le_of_ble_eq_true rfl⟩) ⟨PC_.blind, va_recv hK hP (ci := 1) (q0 := 1) rfl rfl, PC_.pre hF hK hP hD hS hA [0, 1] [0] rfl (by decide) rfl⟩ rfl rfl hl.1 rfl (lv_room (Nat.le_of_ble_eq_true rfl)) dJ4_append_cf468_2 ⟨(show 0 + ((F_J5_append_3fe6f wb capw wn a1).2.2.2.1) ≤ (FF9).2.2.2.1 from (by rw [hM]; exact Nat.le_trans (show 0 + ((F_J5_append_3fe6f wb capw wn a1).2.2.2.1) ≤ (0 + (F_J5_append_3fe6f wb capw wn a1).2.2.2.1) from (by omega)) (show (0 + (F_J5_append_3fe6f wb capw wn a1).2.2.2.1) ≤ (0 + (F_J5_append_3fe6f wb capw wn a1).2.2.2.1) from (by omega)))), (show 0 + ((F_J5_append_3fe6f wb capw wn a1).2.2.2.2) ≤ (FF9).2.2.2.2 from (by rw [hM]; exact Nat.le_trans (show 0 + ((F_J5_append_3fe6f wb capw wn a1).2.2.2.2) ≤ (0 + (F_J5_append_3fe6f wb capw wn a1).2.2.2.2) from (by omega)) (show (0 + (F_J5_append_3fe6f wb capw wn a1).2.2.2.2) ≤ (0 + (F_J5_append_3fe6f wb capw wn a1).2.2.2.2) from (by omega))))⟩) hK hP hD hS hA [0, 1] [] [] rfl rfl (by decide) (by decide) rfl (fun qa_1 ka_1 ia H locs hpo hP hD hK hS => ?_)
  have hen_1 : sb_Fit ((F_J5_append_3fe6f wb capw wn a1).2.1) ∧ ((F_J5_append_3fe6f wb capw wn a1).2.2.1).toInt = wn.toInt + 1 ∧ ((F_J5_append_3fe6f wb capw wn a1).2.2.1).toInt ≤ ((F_J5_append_3fe6f wb capw wn a1).1) ∧ 16 ≤ ((F_J5_append_3fe6f wb capw wn a1).1) ∧ capw ≤ ((F_J5_append_3fe6f wb capw wn a1).1) ∧ ((F_J5_append_3fe6f wb capw wn a1).1) ≤ 20000 := hpo
  have hP : va_P D vwCl [((qa_1 0), .inl ((ka_1 0), (F_J5_append_3fe6f wb capw wn a1).1, .inl (F_J5_append_3fe6f wb capw wn a1).2.1)), (h_B, .inr (1, [.ref (qa_1 0), .int 0, h_B_2, .int (F_J5_append_3fe6f wb capw wn a1).2.2.1]))] H := hP
  have hD : va_D A [((qa_1 0), .inl ((ka_1 0), (F_J5_append_3fe6f wb capw wn a1).1, .inl (F_J5_append_3fe6f wb capw wn a1).2.1)), (h_B, .inr (1, [.ref (qa_1 0), .int 0, h_B_2, .int (F_J5_append_3fe6f wb capw wn a1).2.2.1]))] := hD
  have hK : va_K D vwCl [((ka_1 0), .byte)] s := hK
  refine W.eq (g2 := F0 m 5 ls [.ref h_B]) rfl ?_
  refine lv_pop hx hb dJ4_append_cf468_5 rfl ?_
  refine lv_aload_n hx hb dJ4_append_cf468_6 rfl (lv_at hl 0 rfl) ?_
  refine W.widen (k := (FF9).2.2.2.1) (n := (FF9).2.2.2.2) (Nat.le_of_eq (by rw [hM])) (Nat.le_of_eq (by rw [hM])) ?_
  exact W.aret (v := .ref h_B) hx hb hr (Or.inl ⟨_, rfl⟩) (Or.inr ⟨_, rfl⟩) (QG_.mk (fun n => [(qa_1 0)].getD n 0) (fun n => [(ka_1 0)].getD n 0) (fun _ => 0) [0, 1] [0] hP hD hK hS rfl (by rw [hM]; exact ⟨(show sb_Fit ((F_J5_append_3fe6f wb capw wn a1).2.1) from hen_1.1), (show ((F_J5_append_3fe6f wb capw wn a1).2.2.1).toInt = wn.toInt + 1 from (by have z1 := hy1; have z2 := hy2; have z3 := hy3; have z4 := hy4; have z5 := hy5; have z6 := hy6; have z7 := hy7; have z8 := hen_1; have b1 := Int32.toInt_lt ((F_J5_append_3fe6f wb capw wn a1).2.2.1); have d1 := Int32.le_toInt ((F_J5_append_3fe6f wb capw wn a1).2.2.1); omega)), (show ((F_J5_append_3fe6f wb capw wn a1).2.2.1).toInt ≤ ((F_J5_append_3fe6f wb capw wn a1).1) from (by have z1 := hy1; have z2 := hy2; have z3 := hy3; have z4 := hy4; have z5 := hy5; have z6 := hy6; have z7 := hy7; have z8 := hen_1; have b2 := Int32.toInt_lt ((F_J5_append_3fe6f wb capw wn a1).2.2.1); have d2 := Int32.le_toInt ((F_J5_append_3fe6f wb capw wn a1).2.2.1); omega)), (show 16 ≤ ((F_J5_append_3fe6f wb capw wn a1).1) from (by have z1 := hy1; have z2 := hy2; have z3 := hy3; have z4 := hy4; have z5 := hy5; have z6 := hy6; have z7 := hy7; have z8 := hen_1; omega)), (show capw ≤ ((F_J5_append_3fe6f wb capw wn a1).1) from (by have z1 := hy1; have z2 := hy2; have z3 := hy3; have z4 := hy4; have z5 := hy5; have z6 := hy6; have z7 := hy7; have z8 := hen_1; omega)), (show ((F_J5_append_3fe6f wb capw wn a1).1) ≤ 20000 from (by have z1 := hy1; have z2 := hy2; have z3 := hy3; have z4 := hy4; have z5 := hy5; have z6 := hy6; have z7 := hy7; have z8 := hen_1; omega))⟩) (by first | (rw [hM]; rfl) | rfl) (by decide) rfl) hS.2.2 dJ4_append_cf468_7
def F_J4_append_bf812 (wb : Nat → Int32) (capw : Nat) (wn : Int32) (a1 : Int32) : Nat × (Nat → Int32) × Int32 × Nat × Nat := ((F_J5_append_c97b9 wb capw wn a1).1, ((F_J5_append_c97b9 wb capw wn a1).2.1), (F_J5_append_c97b9 wb capw wn a1).2.2.1, (0 + (F_J5_append_c97b9 wb capw wn a1).2.2.2.1), (0 + (F_J5_append_c97b9 wb capw wn a1).2.2.2.2))
set_option maxHeartbeats 4000000 in
set_option maxRecDepth 100000 in
theorem c_J4_append_bf812 (l : Launch) (hl0 : l.stackTraces = false) (D : va_G) (ad : Nat → Nat) (sz : Nat) (h_wb : Nat) (h_B : Nat) (k_wb : ClassId) (h_B_2 : Value) (capw : Nat) (wb : Nat → Int32) (wn : Int32) (a1 : Int32) (hy0 : sb_Fit wb) (hy1 : 0 ≤ wn.toInt) (hy2 : wn.toInt ≤ capw) (hy3 : wn.toInt ≤ 5000) (hy4 : capw ≤ 20000) (hy5 : 16 ≤ capw) (hy6 : 0 ≤ a1.toInt) (hy7 : a1.toInt < 1000000) (hy8 : wn.toInt < 4990) : Met l yJ4_append_bf812 wsJ4_append_bf812 ({ frames := 5, cells := (F_J4_append_bf812 wb capw wn a1).2.2.2.1, slots := (F_J4_append_bf812 wb capw wn a1).2.2.2.2, locals := 141 }) (PC_ D ad [(h_wb, .inl (k_wb, capw, .inl wb)), (h_B, .inr (1, [.ref h_wb, .int 0, h_B_2, .int wn]))] [(k_wb, .byte)] sz [.ref h_B, .int a1]) (QG_ D (fun q i => some (.ref h_B)) (fun q i => sb_Fit ((F_J4_append_bf812 wb capw wn a1).2.1) ∧ wn.toInt + 1 ≤ ((F_J4_append_bf812 wb capw wn a1).2.2.1).toInt ∧ ((F_J4_append_bf812 wb capw wn a1).2.2.1).toInt ≤ wn.toInt + 6 ∧ (10 ≤ a1.toInt ∨ ((F_J4_append_bf812 wb capw wn a1).2.2.1).toInt ≤ wn.toInt + 1) ∧ ((F_J4_append_bf812 wb capw wn a1).2.2.1).toInt ≤ ((F_J4_append_bf812 wb capw wn a1).1) ∧ 16 ≤ ((F_J4_append_bf812 wb capw wn a1).1) ∧ capw ≤ ((F_J4_append_bf812 wb capw wn a1).1) ∧ ((F_J4_append_bf812 wb capw wn a1).1) ≤ 20000) (fun q k i => [((q 0), .inl ((k 0), (F_J4_append_bf812 wb capw wn a1).1, .inl (F_J4_append_bf812 wb capw wn a1).2.1)), (h_B, .inr (1, [.ref (q 0), .int 0, h_B_2, .int (F_J4_append_bf812 wb capw wn a1).2.2.1]))]) (fun q k i => [((k 0), .byte)]) (va_A [(h_wb, .inl (k_wb, capw, .inl wb)), (h_B, .inr (1, [.ref h_wb, .int 0, h_B_2, .int wn]))] sz)) (F_J4_append_bf812 wb capw wn a1).2.2.2.1 (F_J4_append_bf812 wb capw wn a1).2.2.2.2 (va_A [(h_wb, .inl (k_wb, capw, .inl wb)), (h_B, .inr (1, [.ref h_wb, .int 0, h_B_2, .int wn]))] sz) := by
  refine Met.ofW (cc := cJ4_append_bf812) (maxL := 2) (ret := (some (.object "java/lang/StringBuilder"))) (by decide) rfl ?_
  intro p e s m args below meth c s₁ B hml hv
  obtain ⟨rfl, hsz, hP, hK, hD0, hF⟩ := hv
  have hx := B.exec
  have hb := B.bytes
  have hr := B.returns
  have hts := atoms_spec (ws := wsJ4_append_bf812) B.pre
  have hown : s.vm.findClass RJ4 = some m.cls := findClass_of_methodNamed B.named
  have hlocks := B.notSynchronized
  subst hsz
  have hD := hD0.self (sz := s.heap.size)
  generalize hAe : va_A [(h_wb, .inl (k_wb, capw, .inl wb)), (h_B, .inr (1, [.ref h_wb, .int 0, h_B_2, .int wn]))] s.heap.size = A at hD hF ⊢
  have hA : ∀ q : Nat, s.heap.size ≤ q → A q := fun q h => by rw [← hAe]; exact Or.inr h
  obtain ⟨H, hHe⟩ : ∃ H : Heap, H = s.heap := ⟨_, rfl⟩
  have hS : va_S A s.heap H [] := by rw [hHe]; exact va_S.rf
  have hP : va_P D vwCl [(h_wb, .inl (k_wb, capw, .inl wb)), (h_B, .inr (1, [.ref h_wb, .int 0, h_B_2, .int wn]))] H := by rw [hHe]; exact hP
  rw [← hHe]
  have hl := lv_entry [.ref h_B, .int a1] (n := 2) (Nat.le_of_ble_eq_true rfl)
  rw [lg_entry_eq]
  generalize (lg_sl [.ref h_B, .int a1] ++ List.replicate (2 - (lg_sl [.ref h_B, .int a1]).length) Slot.unset).toArray = ls at hl ⊢
  have hl : lv_has ls 2 [(0, .ref h_B), (1, .int a1)] := hl
  generalize hF9 : F_J4_append_bf812 wb capw wn a1 = FF9
  have hM : FF9 = ((F_J5_append_c97b9 wb capw wn a1).1, ((F_J5_append_c97b9 wb capw wn a1).2.1), (F_J5_append_c97b9 wb capw wn a1).2.2.1, (0 + (F_J5_append_c97b9 wb capw wn a1).2.2.2.1), (0 + (F_J5_append_c97b9 wb capw wn a1).2.2.2.2)) := hF9.symm
  refine lv_aload_n hx hb dJ4_append_bf812_0 rfl (lv_at hl 0 rfl) ?_
  refine lv_iload_n hx hb dJ4_append_bf812_1 rfl (lv_at hl 1 rfl) ?_
  refine kc_ (wc := [(h_wb, .inl (k_wb, capw, .inl wb)), (h_B, .inr (1, [.ref h_wb, .int 0, h_B_2, .int wn]))]) (wr := []) (va_runSU (hK.1 1 _ rfl).2 (As := [.int a1]) (rest := []) ⟨hx, hb, hml, hown, hts⟩ (c_J5_append_c97b9 l hl0 D ad H.size h_wb h_B k_wb (h_B_2) capw wb wn a1 hy0 (by have z1 := hy1; have z2 := hy2; have z3 := hy3; have z4 := hy4; have z5 := hy5; have z6 := hy6; have z7 := hy7; have z8 := hy8; omega) (by have z1 := hy1; have z2 := hy2; have z3 := hy3; have z4 := hy4; have z5 := hy5; have z6 := hy6; have z7 := hy7; have z8 := hy8; omega) (by have z1 := hy1; have z2 := hy2; have z3 := hy3; have z4 := hy4; have z5 := hy5; have z6 := hy6; have z7 := hy7; have z8 := hy8; omega) (by have z1 := hy1; have z2 := hy2; have z3 := hy3; have z4 := hy4; have z5 := hy5; have z6 := hy6; have z7 := hy7; have z8 := hy8; omega) (by have z1 := hy1; have z2 := hy2; have z3 := hy3; have z4 := hy4; have z5 := hy5; have z6 := hy6; have z7 := hy7; have z8 := hy8; omega) (by have z1 := hy1; have z2 := hy2; have z3 := hy3; have z4 := hy4; have z5 := hy5; have z6 := hy6; have z7 := hy7; have z8 := hy8; omega) (by have z1 := hy1; have z2 := hy2; have z3 := hy3; have z4 := hy4; have z5 := hy5; have z6 := hy6; have z7 := hy7; have z8 := hy8; omega) (by have z1 := hy1; have z2 := hy2; have z3 := hy3; have z4 := hy4; have z5 := hy5; have z6 := hy6; have z7 := hy7; have z8 := hy8; omega)) (va_cwSU 1 hts gJ4_append_bf812_J5_append_c97b9_s53 rfl rfl rfl (by decide +kernel) ⟨Nat.le_of_ble_eq_true rfl, Nat.le_of_ble_eq_true rfl⟩) ⟨PC_.blind, va_recv hK hP (ci := 1) (q0 := 1) rfl rfl, PC_.pre hF hK hP hD hS hA [0, 1] [0] rfl (by decide) rfl⟩ rfl rfl hl.1 rfl (lv_room (Nat.le_of_ble_eq_true rfl)) dJ4_append_bf812_2 ⟨(show 0 + ((F_J5_append_c97b9 wb capw wn a1).2.2.2.1) ≤ (FF9).2.2.2.1 from (by rw [hM]; exact Nat.le_trans (show 0 + ((F_J5_append_c97b9 wb capw wn a1).2.2.2.1) ≤ (0 + (F_J5_append_c97b9 wb capw wn a1).2.2.2.1) from (by omega)) (show (0 + (F_J5_append_c97b9 wb capw wn a1).2.2.2.1) ≤ (0 + (F_J5_append_c97b9 wb capw wn a1).2.2.2.1) from (by omega)))), (show 0 + ((F_J5_append_c97b9 wb capw wn a1).2.2.2.2) ≤ (FF9).2.2.2.2 from (by rw [hM]; exact Nat.le_trans (show 0 + ((F_J5_append_c97b9 wb capw wn a1).2.2.2.2) ≤ (0 + (F_J5_append_c97b9 wb capw wn a1).2.2.2.2) from (by omega)) (show (0 + (F_J5_append_c97b9 wb capw wn a1).2.2.2.2) ≤ (0 + (F_J5_append_c97b9 wb capw wn a1).2.2.2.2) from (by omega))))⟩) hK hP hD hS hA [0, 1] [] [] rfl rfl (by decide) (by decide) rfl (fun qa_1 ka_1 ia H locs hpo hP hD hK hS => ?_)
  have hen_1 : sb_Fit ((F_J5_append_c97b9 wb capw wn a1).2.1) ∧ wn.toInt + 1 ≤ ((F_J5_append_c97b9 wb capw wn a1).2.2.1).toInt ∧ ((F_J5_append_c97b9 wb capw wn a1).2.2.1).toInt ≤ wn.toInt + 6 ∧ (10 ≤ a1.toInt ∨ ((F_J5_append_c97b9 wb capw wn a1).2.2.1).toInt ≤ wn.toInt + 1) ∧ ((F_J5_append_c97b9 wb capw wn a1).2.2.1).toInt ≤ ((F_J5_append_c97b9 wb capw wn a1).1) ∧ 16 ≤ ((F_J5_append_c97b9 wb capw wn a1).1) ∧ capw ≤ ((F_J5_append_c97b9 wb capw wn a1).1) ∧ ((F_J5_append_c97b9 wb capw wn a1).1) ≤ 20000 := hpo
  have hP : va_P D vwCl [((qa_1 0), .inl ((ka_1 0), (F_J5_append_c97b9 wb capw wn a1).1, .inl (F_J5_append_c97b9 wb capw wn a1).2.1)), (h_B, .inr (1, [.ref (qa_1 0), .int 0, h_B_2, .int (F_J5_append_c97b9 wb capw wn a1).2.2.1]))] H := hP
  have hD : va_D A [((qa_1 0), .inl ((ka_1 0), (F_J5_append_c97b9 wb capw wn a1).1, .inl (F_J5_append_c97b9 wb capw wn a1).2.1)), (h_B, .inr (1, [.ref (qa_1 0), .int 0, h_B_2, .int (F_J5_append_c97b9 wb capw wn a1).2.2.1]))] := hD
  have hK : va_K D vwCl [((ka_1 0), .byte)] s := hK
  refine W.eq (g2 := F0 m 5 ls [.ref h_B]) rfl ?_
  refine lv_pop hx hb dJ4_append_bf812_5 rfl ?_
  refine lv_aload_n hx hb dJ4_append_bf812_6 rfl (lv_at hl 0 rfl) ?_
  refine W.widen (k := (FF9).2.2.2.1) (n := (FF9).2.2.2.2) (Nat.le_of_eq (by rw [hM])) (Nat.le_of_eq (by rw [hM])) ?_
  exact W.aret (v := .ref h_B) hx hb hr (Or.inl ⟨_, rfl⟩) (Or.inr ⟨_, rfl⟩) (QG_.mk (fun n => [(qa_1 0)].getD n 0) (fun n => [(ka_1 0)].getD n 0) (fun _ => 0) [0, 1] [0] hP hD hK hS rfl (by rw [hM]; exact ⟨(show sb_Fit ((F_J5_append_c97b9 wb capw wn a1).2.1) from hen_1.1), (show wn.toInt + 1 ≤ ((F_J5_append_c97b9 wb capw wn a1).2.2.1).toInt from (by have z1 := hy1; have z2 := hy2; have z3 := hy3; have z4 := hy4; have z5 := hy5; have z6 := hy6; have z7 := hy7; have z8 := hy8; have z9 := hen_1; have b1 := Int32.toInt_lt ((F_J5_append_c97b9 wb capw wn a1).2.2.1); have d1 := Int32.le_toInt ((F_J5_append_c97b9 wb capw wn a1).2.2.1); omega)), (show ((F_J5_append_c97b9 wb capw wn a1).2.2.1).toInt ≤ wn.toInt + 6 from (by have z1 := hy1; have z2 := hy2; have z3 := hy3; have z4 := hy4; have z5 := hy5; have z6 := hy6; have z7 := hy7; have z8 := hy8; have z9 := hen_1; have b2 := Int32.toInt_lt ((F_J5_append_c97b9 wb capw wn a1).2.2.1); have d2 := Int32.le_toInt ((F_J5_append_c97b9 wb capw wn a1).2.2.1); omega)), (show (10 ≤ a1.toInt ∨ ((F_J5_append_c97b9 wb capw wn a1).2.2.1).toInt ≤ wn.toInt + 1) from (by have z1 := hy1; have z2 := hy2; have z3 := hy3; have z4 := hy4; have z5 := hy5; have z6 := hy6; have z7 := hy7; have z8 := hy8; have z9 := hen_1; have b3 := Int32.toInt_lt ((F_J5_append_c97b9 wb capw wn a1).2.2.1); have d3 := Int32.le_toInt ((F_J5_append_c97b9 wb capw wn a1).2.2.1); omega)), (show ((F_J5_append_c97b9 wb capw wn a1).2.2.1).toInt ≤ ((F_J5_append_c97b9 wb capw wn a1).1) from (by have z1 := hy1; have z2 := hy2; have z3 := hy3; have z4 := hy4; have z5 := hy5; have z6 := hy6; have z7 := hy7; have z8 := hy8; have z9 := hen_1; have b4 := Int32.toInt_lt ((F_J5_append_c97b9 wb capw wn a1).2.2.1); have d4 := Int32.le_toInt ((F_J5_append_c97b9 wb capw wn a1).2.2.1); omega)), (show 16 ≤ ((F_J5_append_c97b9 wb capw wn a1).1) from (by have z1 := hy1; have z2 := hy2; have z3 := hy3; have z4 := hy4; have z5 := hy5; have z6 := hy6; have z7 := hy7; have z8 := hy8; have z9 := hen_1; omega)), (show capw ≤ ((F_J5_append_c97b9 wb capw wn a1).1) from (by have z1 := hy1; have z2 := hy2; have z3 := hy3; have z4 := hy4; have z5 := hy5; have z6 := hy6; have z7 := hy7; have z8 := hy8; have z9 := hen_1; omega)), (show ((F_J5_append_c97b9 wb capw wn a1).1) ≤ 20000 from (by have z1 := hy1; have z2 := hy2; have z3 := hy3; have z4 := hy4; have z5 := hy5; have z6 := hy6; have z7 := hy7; have z8 := hy8; have z9 := hen_1; omega))⟩) (by first | (rw [hM]; rfl) | rfl) (by decide) rfl) hS.2.2 dJ4_append_bf812_7
def F_J5_length_8abf5 (wn : Int32) : Int32 := wn
set_option maxHeartbeats 4000000 in
set_option maxRecDepth 100000 in
theorem c_J5_length_8abf5 (l : Launch) (hl0 : l.stackTraces = false) (D : va_G) (ad : Nat → Nat) (sz : Nat) (h_B : Nat) (h_B_0 : Value) (h_B_1 : Value) (h_B_2 : Value) (wn : Int32) (hy1 : 0 ≤ wn.toInt) (hy3 : wn.toInt ≤ 5000) : Met l yJ5_length_8abf5 wsJ5_length_8abf5 ({ frames := 0, cells := 0, slots := 0, locals := 0 }) (PR_ D ad [(h_B, .inr (1, [h_B_0, h_B_1, h_B_2, .int wn]))] [] sz [.ref h_B]) (QR_ (.int (F_J5_length_8abf5 wn)) (va_A [] sz)) 0 0 (va_A [] sz) := by
  refine Met.ofW (cc := cJ5_length_8abf5) (maxL := 1) (ret := (some .int)) (by decide) rfl ?_
  intro p e s m args below meth c s₁ B hml hv
  obtain ⟨rfl, hsz, hP, hK, hF⟩ := hv
  have hx := B.exec
  have hb := B.bytes
  have hr := B.returns
  have hts := atoms_spec (ws := wsJ5_length_8abf5) B.pre
  have hown : s.vm.findClass RJ5 = some m.cls := findClass_of_methodNamed B.named
  have hlocks := B.notSynchronized
  subst hsz
  generalize hAe : va_A [] s.heap.size = A at hF ⊢
  have hA : ∀ q : Nat, s.heap.size ≤ q → A q := fun q h => by rw [← hAe]; exact Or.inr h
  obtain ⟨H, hHe⟩ : ∃ H : Heap, H = s.heap := ⟨_, rfl⟩
  have hS : va_S A s.heap H [] := by rw [hHe]; exact va_S.rf
  have hP : va_P D vwCl [(h_B, .inr (1, [h_B_0, h_B_1, h_B_2, .int wn]))] H := by rw [hHe]; exact hP
  rw [← hHe]
  have hi_J4 : ∀ w ∈ wsJ40, w ∈ wsJ5_length_8abf5 := by decide +kernel
  have hl := lv_entry [.ref h_B] (n := 1) (Nat.le_of_ble_eq_true rfl)
  rw [lg_entry_eq]
  generalize (lg_sl [.ref h_B] ++ List.replicate (1 - (lg_sl [.ref h_B]).length) Slot.unset).toArray = ls at hl ⊢
  have hl : lv_has ls 1 [(0, .ref h_B)] := hl
  have hM : F_J5_length_8abf5 wn = wn := rfl
  refine lv_aload_n hx hb dJ5_length_8abf5_0 rfl (lv_at hl 0 rfl) ?_
  refine va_get (D := D) (ci := 1) (v := .int wn) (own := RJ5) (C := RJ4) (T := TJ4) (N := 4) hx hb hts hi_J4 hown hK hP 0 rfl rfl 3 (by decide) (hts (.fieldLink RJ5 79 "java/lang/AbstractStringBuilder" "count" "I") (List.mem_of_getElem? (i := 1) (by decide +kernel))) (fun _ h9 => h9) rfl dJ5_length_8abf5_1 ?_
  refine W.widen (k := 0) (n := 0) (Nat.le_of_ble_eq_true rfl) (Nat.le_of_ble_eq_true rfl) ?_
  exact W.iret (v := wn) hx hb hr (QR_.mk hS (by rw [hM])) hS.2.2 dJ5_length_8abf5_4
def F_J4_length_8abf5 (wn : Int32) : Int32 := (F_J5_length_8abf5 wn)
set_option maxHeartbeats 4000000 in
set_option maxRecDepth 100000 in
theorem c_J4_length_8abf5 (l : Launch) (hl0 : l.stackTraces = false) (D : va_G) (ad : Nat → Nat) (sz : Nat) (h_B : Nat) (h_B_0 : Value) (h_B_1 : Value) (h_B_2 : Value) (wn : Int32) (hy1 : 0 ≤ wn.toInt) (hy3 : wn.toInt ≤ 5000) : Met l yJ4_length_8abf5 wsJ4_length_8abf5 ({ frames := 1, cells := 0, slots := 0, locals := 22 }) (PR_ D ad [(h_B, .inr (1, [h_B_0, h_B_1, h_B_2, .int wn]))] [] sz [.ref h_B]) (QR_ (.int (F_J4_length_8abf5 wn)) (va_A [] sz)) 0 0 (va_A [] sz) := by
  refine Met.ofW (cc := cJ4_length_8abf5) (maxL := 1) (ret := (some .int)) (by decide) rfl ?_
  intro p e s m args below meth c s₁ B hml hv
  obtain ⟨rfl, hsz, hP, hK, hF⟩ := hv
  have hx := B.exec
  have hb := B.bytes
  have hr := B.returns
  have hts := atoms_spec (ws := wsJ4_length_8abf5) B.pre
  have hown : s.vm.findClass RJ4 = some m.cls := findClass_of_methodNamed B.named
  have hlocks := B.notSynchronized
  subst hsz
  generalize hAe : va_A [] s.heap.size = A at hF ⊢
  have hA : ∀ q : Nat, s.heap.size ≤ q → A q := fun q h => by rw [← hAe]; exact Or.inr h
  obtain ⟨H, hHe⟩ : ∃ H : Heap, H = s.heap := ⟨_, rfl⟩
  have hS : va_S A s.heap H [] := by rw [hHe]; exact va_S.rf
  have hP : va_P D vwCl [(h_B, .inr (1, [h_B_0, h_B_1, h_B_2, .int wn]))] H := by rw [hHe]; exact hP
  rw [← hHe]
  have hl := lv_entry [.ref h_B] (n := 1) (Nat.le_of_ble_eq_true rfl)
  rw [lg_entry_eq]
  generalize (lg_sl [.ref h_B] ++ List.replicate (1 - (lg_sl [.ref h_B]).length) Slot.unset).toArray = ls at hl ⊢
  have hl : lv_has ls 1 [(0, .ref h_B)] := hl
  have hM : F_J4_length_8abf5 wn = (F_J5_length_8abf5 wn) := rfl
  refine lv_aload_n hx hb dJ4_length_8abf5_0 rfl (lv_at hl 0 rfl) ?_
  obtain ⟨y9, hy9⟩ : ∃ y9, (F_J5_length_8abf5 wn) = y9 := ⟨_, rfl⟩
  have hcon := (c_J5_length_8abf5 l hl0 D ad H.size h_B (h_B_0) (h_B_1) (h_B_2) wn (by have z0 := hy1; have z1 := hy3; omega) (by have z0 := hy1; have z1 := hy3; omega))
  rw [hy9] at hcon
  refine kr_ (va_runSU (hK.1 1 _ rfl).2 (As := []) (rest := []) ⟨hx, hb, hml, hown, hts⟩ hcon (va_cwSU 0 hts gJ4_length_8abf5_J5_length_8abf5_s343 rfl rfl rfl (by decide +kernel) ⟨Nat.le_of_ble_eq_true rfl, Nat.le_of_ble_eq_true rfl⟩) ⟨PR_.blind, va_recv hK hP (ci := 1) (q0 := 0) rfl rfl, PR_.pre hF hK (hP.sub [0] rfl) hS hA [] rfl⟩ rfl rfl hl.1 rfl (lv_room (Nat.le_of_ble_eq_true rfl)) dJ4_length_8abf5_1 ⟨(Nat.le_of_ble_eq_true rfl), (Nat.le_of_ble_eq_true rfl)⟩) hP hS hA (fun H locs hP hS => ?_)
  subst hy9
  refine W.eq (g2 := F0 m 4 ls [.int (F_J5_length_8abf5 wn)]) rfl ?_
  refine W.widen (k := 0) (n := 0) (Nat.le_of_ble_eq_true rfl) (Nat.le_of_ble_eq_true rfl) ?_
  exact W.iret (v := (F_J5_length_8abf5 wn)) hx hb hr (QR_.mk hS (by rw [hM])) hS.2.2 dJ4_length_8abf5_4
