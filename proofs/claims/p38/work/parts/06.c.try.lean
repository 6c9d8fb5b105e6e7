def F_X6_init (a1 : Int32) (a2 : Int32) (a3 : Int32) : Int32 × Int32 × Int32 := (a1, a2, a3)
set_option maxHeartbeats 4000000 in
set_option maxRecDepth 100000 in
theorem c_X6_init (l : Launch) (hl0 : l.stackTraces = false) (D : va_G) (ad : Nat → Nat) (sz : Nat) (h_ar4 : Nat) (h_P : Nat) (h_P_3 : Value) (po : Int32) (ps : Int32) (pm : Int32) (a1 : Int32) (a2 : Int32) (a3 : Int32) : Met l yX6_init wsX6_init ({ frames := 1, cells := 0, slots := 0, locals := 40 }) (PC_ D ad [(h_P, .inr (9, [.int po, .int ps, .int pm, h_P_3]))] [] sz [.ref h_P, .int a1, .int a2, .int a3, .ref h_ar4]) (QG_ D (fun q i => none) (fun q i => True) (fun q k i => [(h_P, .inr (9, [.int (F_X6_init a1 a2 a3).1, .int (F_X6_init a1 a2 a3).2.1, .int (F_X6_init a1 a2 a3).2.2, .ref h_ar4]))]) (fun q k i => []) (va_A [(h_P, .inr (9, [.int po, .int ps, .int pm, h_P_3]))] sz)) 0 0 (va_A [(h_P, .inr (9, [.int po, .int ps, .int pm, h_P_3]))] sz) := by
  refine Met.ofW (cc := cX6_init) (maxL := 5) (ret := none) (by decide) rfl ?_
  intro p e s m args below meth c s₁ B hml hv
  obtain ⟨rfl, hsz, hP, hK, hD0, hF⟩ := hv
  have hx := B.exec
  have hb := B.bytes
  have hr := B.returns
  have hts := atoms_spec (ws := wsX6_init) B.pre
  have hown : s.vm.findClass RX6 = some m.cls := findClass_of_methodNamed B.named
  have hlocks := B.notSynchronized
  have hin : meth.name = "<init>" := (name_of_methodNamed B.named B.method).1
  subst hsz
  have hD := hD0.self (sz := s.heap.size)
  generalize hAe : va_A [(h_P, .inr (9, [.int po, .int ps, .int pm, h_P_3]))] s.heap.size = A at hD hF ⊢
  have hA : ∀ q : Nat, s.heap.size ≤ q → A q := fun q h => by rw [← hAe]; exact Or.inr h
  obtain ⟨H, hHe⟩ : ∃ H : Heap, H = s.heap := ⟨_, rfl⟩
  have hS : va_S A s.heap H [] := by rw [hHe]; exact va_S.rf
  have hP : va_P D vwCl [(h_P, .inr (9, [.int po, .int ps, .int pm, h_P_3]))] H := by rw [hHe]; exact hP
  rw [← hHe]
  have hi_X6 : ∀ w ∈ wsX60, w ∈ wsX6_init := by decide +kernel
  have hl := lv_entry [.ref h_P, .int a1, .int a2, .int a3, .ref h_ar4] (n := 5) (Nat.le_of_ble_eq_true rfl)
  rw [lg_entry_eq]
  generalize (lg_sl [.ref h_P, .int a1, .int a2, .int a3, .ref h_ar4] ++ List.replicate (5 - (lg_sl [.ref h_P, .int a1, .int a2, .int a3, .ref h_ar4]).length) Slot.unset).toArray = ls at hl ⊢
  have hl : lv_has ls 5 [(0, .ref h_P), (1, .int a1), (2, .int a2), (3, .int a3), (4, .ref h_ar4)] := hl
  have hM : F_X6_init a1 a2 a3 = (a1, a2, a3) := rfl
  refine lv_aload_n hx hb dX6_init_0 rfl (lv_at hl 0 rfl) ?_
  refine W.objInit hx hb hown (hts (.methodLink RX6 1 objectInit) (List.mem_of_getElem? (i := 1) (by decide +kernel))) (hts (.instanceMethod objectInit) (List.mem_of_getElem? (i := 2) (by decide +kernel))) (hts (.code objectInit ⟨#[0xb1]⟩ 1 none) (List.mem_of_getElem? (i := 3) (by decide +kernel))) rfl (by rw [hml]; exact hl.1) rfl dX6_init_1 (Nat.le_of_ble_eq_true rfl) (Nat.le_of_ble_eq_true rfl) ?_
  refine W.eq (g2 := F0 m 4 ls []) rfl ?_
  refine lv_aload_n hx hb dX6_init_4 rfl (lv_at hl 0 rfl) ?_
  refine lv_iload_n hx hb dX6_init_5 rfl (lv_at hl 1 rfl) ?_
  refine va_putF (D := D) (ci := 9) (v := .int a1) (ty := .int) (own := RX6) (C := RX6) (T := TX6) (N := 4) hx hb hts hi_X6 tyX6 tyX6_ok nmX6 hown hK hP hD hS 0 rfl rfl 0 (by decide) (hts (.fieldLink RX6 7 "CanalMaps$Page" "origin" "I") (List.mem_of_getElem? (i := 4) (by decide +kernel))) (fun _ h9 => h9) rfl hin rfl (by decide +kernel) rfl rfl (Nat.le_of_ble_eq_true rfl) dX6_init_6 (fun H locs hP hD hS => ?_)
  have hP : va_P D vwCl [(h_P, .inr (9, [.int a1, .int ps, .int pm, h_P_3]))] H := hP
  have hD : va_D A [(h_P, .inr (9, [.int a1, .int ps, .int pm, h_P_3]))] := hD
  refine lv_aload_n hx hb dX6_init_9 rfl (lv_at hl 0 rfl) ?_
  refine lv_iload_n hx hb dX6_init_10 rfl (lv_at hl 2 rfl) ?_
  refine va_putF (D := D) (ci := 9) (v := .int a2) (ty := .int) (own := RX6) (C := RX6) (T := TX6) (N := 4) hx hb hts hi_X6 tyX6 tyX6_ok nmX6 hown hK hP hD hS 0 rfl rfl 1 (by decide) (hts (.fieldLink RX6 13 "CanalMaps$Page" "serial" "I") (List.mem_of_getElem? (i := 5) (by decide +kernel))) (fun _ h9 => h9) rfl hin rfl (by decide +kernel) rfl rfl (Nat.le_of_ble_eq_true rfl) dX6_init_11 (fun H locs hP hD hS => ?_)
  have hP : va_P D vwCl [(h_P, .inr (9, [.int a1, .int a2, .int pm, h_P_3]))] H := hP
  have hD : va_D A [(h_P, .inr (9, [.int a1, .int a2, .int pm, h_P_3]))] := hD
  refine lv_aload_n hx hb dX6_init_14 rfl (lv_at hl 0 rfl) ?_
  refine lv_iload_n hx hb dX6_init_15 rfl (lv_at hl 3 rfl) ?_
  refine va_putF (D := D) (ci := 9) (v := .int a3) (ty := .int) (own := RX6) (C := RX6) (T := TX6) (N := 4) hx hb hts hi_X6 tyX6 tyX6_ok nmX6 hown hK hP hD hS 0 rfl rfl 2 (by decide) (hts (.fieldLink RX6 16 "CanalMaps$Page" "madeAt" "I") (List.mem_of_getElem? (i := 6) (by decide +kernel))) (fun _ h9 => h9) rfl hin rfl (by decide +kernel) rfl rfl (Nat.le_of_ble_eq_true rfl) dX6_init_16 (fun H locs hP hD hS => ?_)
  have hP : va_P D vwCl [(h_P, .inr (9, [.int a1, .int a2, .int a3, h_P_3]))] H := hP
  have hD : va_D A [(h_P, .inr (9, [.int a1, .int a2, .int a3, h_P_3]))] := hD
  refine lv_aload_n hx hb dX6_init_19 rfl (lv_at hl 0 rfl) ?_
  refine lv_aload hx hb dX6_init_20 (lv_at hl 4 rfl) ?_
  refine va_putF (D := D) (ci := 9) (v := .ref h_ar4) (ty := tyX6 3) (own := RX6) (C := RX6) (T := TX6) (N := 4) hx hb hts hi_X6 tyX6 tyX6_ok nmX6 hown hK hP hD hS 0 rfl rfl 3 (by decide) (hts (.fieldLink RX6 19 "CanalMaps$Page" "costs" "[I") (List.mem_of_getElem? (i := 7) (by decide +kernel))) (fun _ h9 => h9) rfl hin rfl (by decide +kernel) rfl rfl (Nat.le_of_ble_eq_true rfl) dX6_init_22 (fun H locs hP hD hS => ?_)
  have hP : va_P D vwCl [(h_P, .inr (9, [.int a1, .int a2, .int a3, .ref h_ar4]))] H := hP
  have hD : va_D A [(h_P, .inr (9, [.int a1, .int a2, .int a3, .ref h_ar4]))] := hD
  refine W.widen (k := 0) (n := 0) (Nat.le_of_ble_eq_true rfl) (Nat.le_of_ble_eq_true rfl) ?_
  exact W.vret hx hb hr (QG_.mk (fun _ => 0) (fun _ => 0) (fun _ => 0) [0] [] hP hD hK hS rfl trivial (by first | (rw [hM]; rfl) | rfl) (by decide) rfl) hS.2.2 dX6_init_25
def B_X8_forget_2 (PP : List PG) (n : Int32) (tk : Int32) (a1 : Int32) (a2 : Int32) (rc_2 : Int32 → (Nat → Int32) → (Int32 × (Nat → Int32))) (x2_3 : Int32) (x2_h_mp : Nat → Int32) : Int32 × (Nat → Int32) := (if n ≤ x2_3 then (x2_3, x2_h_mp) else (if x2_3 = a1 then (rc_2 (x2_3 + 1) x2_h_mp) else (if (F_X8_ageOf tk ((pgd PP (F_X8_pageIn PP x2_h_mp a1 x2_3)).2.2.1)) < a2 then (rc_2 (x2_3 + 1) x2_h_mp) else (rc_2 (x2_3 + 1) (upd x2_h_mp (ix (F_X8_pair a1 x2_3)) 0)))))
def L_X8_forget_2 (PP : List PG) (n : Int32) (tk : Int32) (a1 : Int32) (a2 : Int32) : Nat → Int32 → (Nat → Int32) → (Int32 × (Nat → Int32))
  | 0 => fun x2_3 x2_h_mp => (x2_3, x2_h_mp)
  | k + 1 => B_X8_forget_2 PP n tk a1 a2 (L_X8_forget_2 PP n tk a1 a2 k)
def K_X8_forget_2  : (Int32 × (Nat → Int32)) → ((Nat → Int32))
  | (x2_3, x2_h_mp) => x2_h_mp
def F_X8_forget (PP : List PG) (mp : Nat → Int32) (n : Int32) (tk : Int32) (a1 : Int32) (a2 : Int32) : (Nat → Int32) := (K_X8_forget_2 (L_X8_forget_2 PP n tk a1 a2 (((n : Int32).toInt - (0 : Int32).toInt).toNat + 1) 0 mp))
set_option maxHeartbeats 4000000 in
set_option maxRecDepth 100000 in
theorem c_X8_forget (l : Launch) (hl0 : l.stackTraces = false) (D : va_G) (ad : Nat → Nat) (sz : Nat) (h_el : Nat) (h_li : Nat) (h_A : Nat) (h_mp : Nat) (h_S : Nat) (k_el : ClassId) (k_mp : ClassId) (h_li_0 : Value) (h_S_1 : Value) (h_S_2 : Value) (h_S_4 : Value) (h_S_7 : Value) (h_S_8 : Value) (h_S_9 : Value) (kI : ClassId) (AL : List (Nat × Nat)) (PP : List PG) (capE : Nat) (mp : Nat → Int32) (n : Int32) (tk : Int32) (a1 : Int32) (a2 : Int32) (hlen : AL.length = PP.length) (hpos : 0 < PP.length) (hbig : PP.length ≤ 2000000) (hy0 : n.toInt ≤ 6) (hy1 : PP.length ≤ capE) : Met l yX8_forget wsX8_forget ({ frames := 5, cells := 0, slots := 0, locals := 117 }) (PC_ D ad ([(h_el, .inl (k_el, capE, .inr (.inr (.inr (.inr (egl AL)))))), (h_li, .inr (4, [h_li_0, .ref h_el, .int (nI PP.length)])), (h_A, .inr (5, [.ref h_li, .ref (pad AL 0)])), (h_mp, .inl (k_mp, 36, .inl mp)), (h_S, .inr (11, [.ref h_A, h_S_1, h_S_2, .ref h_mp, h_S_4, .int n, .int tk, h_S_7, h_S_8, h_S_9]))] ++ pgl kI AL PP) [(k_el, .object "java/lang/Object"), (k_mp, .int), (kI, .int)] sz [.ref h_S, .int a1, .int a2]) (QG_ D (fun q i => none) (fun q i => True) (fun q k i => ([(h_el, .inl (k_el, capE, .inr (.inr (.inr (.inr (egl AL)))))), (h_li, .inr (4, [h_li_0, .ref h_el, .int (nI PP.length)])), (h_A, .inr (5, [.ref h_li, .ref (pad AL 0)])), (h_mp, .inl (k_mp, 36, .inl (F_X8_forget PP mp n tk a1 a2))), (h_S, .inr (11, [.ref h_A, h_S_1, h_S_2, .ref h_mp, h_S_4, .int n, .int tk, h_S_7, h_S_8, h_S_9]))] ++ pgl kI AL PP)) (fun q k i => [(k_el, .object "java/lang/Object"), (k_mp, .int), (kI, .int)]) (va_A ([(h_el, .inl (k_el, capE, .inr (.inr (.inr (.inr (egl AL)))))), (h_li, .inr (4, [h_li_0, .ref h_el, .int (nI PP.length)])), (h_A, .inr (5, [.ref h_li, .ref (pad AL 0)])), (h_mp, .inl (k_mp, 36, .inl mp)), (h_S, .inr (11, [.ref h_A, h_S_1, h_S_2, .ref h_mp, h_S_4, .int n, .int tk, h_S_7, h_S_8, h_S_9]))] ++ pgl kI AL PP) sz)) 0 0 (va_A ([(h_el, .inl (k_el, capE, .inr (.inr (.inr (.inr (egl AL)))))), (h_li, .inr (4, [h_li_0, .ref h_el, .int (nI PP.length)])), (h_A, .inr (5, [.ref h_li, .ref (pad AL 0)])), (h_mp, .inl (k_mp, 36, .inl mp)), (h_S, .inr (11, [.ref h_A, h_S_1, h_S_2, .ref h_mp, h_S_4, .int n, .int tk, h_S_7, h_S_8, h_S_9]))] ++ pgl kI AL PP) sz) := by
  refine Met.ofW (cc := cX8_forget) (maxL := 4) (ret := none) (by decide) rfl ?_
  intro p e s m args below meth c s₁ B hml hv
  obtain ⟨rfl, hsz, hP, hK, hD0, hF⟩ := hv
  have hx := B.exec
  have hb := B.bytes
  have hr := B.returns
  have hts := atoms_spec (ws := wsX8_forget) B.pre
  have hown : s.vm.findClass RX8 = some m.cls := findClass_of_methodNamed B.named
  have hlocks := B.notSynchronized
  subst hsz
  have hD := hD0.self (sz := s.heap.size)
  generalize hAe : va_A ([(h_el, .inl (k_el, capE, .inr (.inr (.inr (.inr (egl AL)))))), (h_li, .inr (4, [h_li_0, .ref h_el, .int (nI PP.length)])), (h_A, .inr (5, [.ref h_li, .ref (pad AL 0)])), (h_mp, .inl (k_mp, 36, .inl mp)), (h_S, .inr (11, [.ref h_A, h_S_1, h_S_2, .ref h_mp, h_S_4, .int n, .int tk, h_S_7, h_S_8, h_S_9]))] ++ pgl kI AL PP) s.heap.size = A at hD hF ⊢
  have hA : ∀ q : Nat, s.heap.size ≤ q → A q := fun q h => by rw [← hAe]; exact Or.inr h
  obtain ⟨H, hHe⟩ : ∃ H : Heap, H = s.heap := ⟨_, rfl⟩
  have hS : va_S A s.heap H [] := by rw [hHe]; exact va_S.rf
  have hP : va_P D vwCl ([(h_el, .inl (k_el, capE, .inr (.inr (.inr (.inr (egl AL)))))), (h_li, .inr (4, [h_li_0, .ref h_el, .int (nI PP.length)])), (h_A, .inr (5, [.ref h_li, .ref (pad AL 0)])), (h_mp, .inl (k_mp, 36, .inl mp)), (h_S, .inr (11, [.ref h_A, h_S_1, h_S_2, .ref h_mp, h_S_4, .int n, .int tk, h_S_7, h_S_8, h_S_9]))] ++ pgl kI AL PP) H := by rw [hHe]; exact hP
  rw [← hHe]
  have hi_X8 : ∀ w ∈ wsX80, w ∈ wsX8_forget := by decide +kernel
  have hl := lv_entry [.ref h_S, .int a1, .int a2] (n := 4) (Nat.le_of_ble_eq_true rfl)
  rw [lg_entry_eq]
  generalize (lg_sl [.ref h_S, .int a1, .int a2] ++ List.replicate (4 - (lg_sl [.ref h_S, .int a1, .int a2]).length) Slot.unset).toArray = ls at hl ⊢
  have hl : lv_has ls 4 [(0, .ref h_S), (1, .int a1), (2, .int a2)] := hl
  have hM : F_X8_forget PP mp n tk a1 a2 = (K_X8_forget_2 (L_X8_forget_2 PP n tk a1 a2 (((n : Int32).toInt - (0 : Int32).toInt).toNat + 1) 0 mp)) := rfl
  refine lv_iconst (v := 0) hx hb dX8_forget_0 (by decide) ?_
  refine lv_istore_n (lv' := [(3, .int 0), (0, .ref h_S), (1, .int a1), (2, .int a2)]) hx hb dX8_forget_1 rfl hl (by decide) rfl (fun ls hl => ?_)
  refine lpW (τ := Int32 × (Nat → Int32)) (fun k t H locs ls c9 s9 => ((n : Int32).toInt - (t.1 : Int32).toInt).toNat < k ∧ 0 ≤ (t.1 : Int32).toInt ∧ va_P D vwCl ([(h_el, .inl (k_el, capE, .inr (.inr (.inr (.inr (egl AL)))))), (h_li, .inr (4, [h_li_0, .ref h_el, .int (nI PP.length)])), (h_A, .inr (5, [.ref h_li, .ref (pad AL 0)])), (h_mp, .inl (k_mp, 36, .inl t.2)), (h_S, .inr (11, [.ref h_A, h_S_1, h_S_2, .ref h_mp, h_S_4, .int n, .int tk, h_S_7, h_S_8, h_S_9]))] ++ pgl kI AL PP) H ∧ va_D A ([(h_el, .inl (k_el, capE, .inr (.inr (.inr (.inr (egl AL)))))), (h_li, .inr (4, [h_li_0, .ref h_el, .int (nI PP.length)])), (h_A, .inr (5, [.ref h_li, .ref (pad AL 0)])), (h_mp, .inl (k_mp, 36, .inl t.2)), (h_S, .inr (11, [.ref h_A, h_S_1, h_S_2, .ref h_mp, h_S_4, .int n, .int tk, h_S_7, h_S_8, h_S_9]))] ++ pgl kI AL PP) ∧ va_S A s.heap H locs ∧ lv_has ls 4 [(3, .int t.1), (0, .ref h_S), (1, .int a1), (2, .int a2)] ∧ F_X8_forget PP mp n tk a1 a2 = (K_X8_forget_2 (L_X8_forget_2 PP n tk a1 a2 k t.1 t.2)) ∧ c9 = 0 ∧ s9 = 0) (fun t H locs ls c9 s9 h9 => absurd h9.1 (Nat.not_lt_zero _)) (fun k_1 ih t H locs ls c9 s9 hI => ?_) (((n : Int32).toInt - (0 : Int32).toInt).toNat + 1) (0, mp) ⟨Nat.lt_succ_self _, (show 0 ≤ (0 : Int32).toInt from (by decide +kernel)), hP, hD, hS, (by exact hl), hM, rfl, rfl⟩
  obtain ⟨x2_3, x2_h_mp⟩ := t
  obtain ⟨hk_1, hz_1, hP, hD, hS, hl, hM, hcs, hss⟩ := hI
  replace hcs := hcs.symm
  subst hcs
  replace hss := hss.symm
  subst hss
  have hP : va_P D vwCl ([(h_el, .inl (k_el, capE, .inr (.inr (.inr (.inr (egl AL)))))), (h_li, .inr (4, [h_li_0, .ref h_el, .int (nI PP.length)])), (h_A, .inr (5, [.ref h_li, .ref (pad AL 0)])), (h_mp, .inl (k_mp, 36, .inl x2_h_mp)), (h_S, .inr (11, [.ref h_A, h_S_1, h_S_2, .ref h_mp, h_S_4, .int n, .int tk, h_S_7, h_S_8, h_S_9]))] ++ pgl kI AL PP) H := hP
  have hD : va_D A ([(h_el, .inl (k_el, capE, .inr (.inr (.inr (.inr (egl AL)))))), (h_li, .inr (4, [h_li_0, .ref h_el, .int (nI PP.length)])), (h_A, .inr (5, [.ref h_li, .ref (pad AL 0)])), (h_mp, .inl (k_mp, 36, .inl x2_h_mp)), (h_S, .inr (11, [.ref h_A, h_S_1, h_S_2, .ref h_mp, h_S_4, .int n, .int tk, h_S_7, h_S_8, h_S_9]))] ++ pgl kI AL PP) := hD
  have hl : lv_has ls 4 [(3, .int x2_3), (0, .ref h_S), (1, .int a1), (2, .int a2)] := hl
  have hz_1 : 0 ≤ (x2_3 : Int32).toInt := hz_1
  have hk_1 : ((n : Int32).toInt - (x2_3 : Int32).toInt).toNat < k_1 + 1 := hk_1
  have hM : F_X8_forget PP mp n tk a1 a2 = (K_X8_forget_2 ((if n ≤ x2_3 then (x2_3, x2_h_mp) else (if x2_3 = a1 then ((L_X8_forget_2 PP n tk a1 a2 k_1) (x2_3 + 1) x2_h_mp) else (if (F_X8_ageOf tk ((pgd PP (F_X8_pageIn PP x2_h_mp a1 x2_3)).2.2.1)) < a2 then ((L_X8_forget_2 PP n tk a1 a2 k_1) (x2_3 + 1) x2_h_mp) else ((L_X8_forget_2 PP n tk a1 a2 k_1) (x2_3 + 1) (upd x2_h_mp (ix (F_X8_pair a1 x2_3)) 0))))))) := hM
  have ih_1 := ih
  refine lv_iload_n hx hb dX8_forget_2 rfl (lv_at hl 0 rfl) ?_
  refine lv_aload_n hx hb dX8_forget_3 rfl (lv_at hl 1 rfl) ?_
  refine va_get (D := D) (ci := 11) (v := .int n) (own := RX8) (C := RX8) (T := TX8) (N := 10) hx hb hts hi_X8 hown hK hP 4 rfl rfl 5 (by decide) (hts (.fieldLink RX8 28 "CanalMaps$Survey" "surveyors" "I") (List.mem_of_getElem? (i := 1) (by decide +kernel))) (fun _ h9 => h9) rfl dX8_forget_4 ?_
  refine lv_icmp_ge (tgt := 46) hx hb dX8_forget_7 (by decide) (fun c_2 => ?_) (fun c_2 => ?_)
  · rw [if_pos c_2] at hM
    have hM : F_X8_forget PP mp n tk a1 a2 = x2_h_mp := hM
    refine W.widen (k := 0) (n := 0) (Nat.le_of_ble_eq_true rfl) (Nat.le_of_ble_eq_true rfl) ?_
    exact W.vret hx hb hr (QG_.mk (fun _ => 0) (fun _ => 0) (fun _ => 0) ([0, 1, 2, 3, 4] ++ (tl_ 5 (pgl kI AL PP))) [0, 1, 2] hP hD hK hS rfl trivial (by rw [hM]; exact tl_C [0, 1, 2, 3, 4] rfl rfl) (tl_nd [0, 1, 2, 3, 4] (by decide) (by decide)) rfl) hS.2.2 dX8_forget_46
  · rw [if_neg c_2] at hM
    refine lv_iload_n hx hb dX8_forget_10 rfl (lv_at hl 0 rfl) ?_
    refine lv_iload_n hx hb dX8_forget_11 rfl (lv_at hl 2 rfl) ?_
    refine lv_icmp_eq (tgt := 40) hx hb dX8_forget_12 (by decide) (fun c_3 => ?_) (fun c_3 => ?_)
    · rw [if_pos c_3] at hM
      refine lv_iinc (v := (x2_3 + 1)) (lv' := [(3, .int (x2_3 + 1)), (0, .ref h_S), (1, .int a1), (2, .int a2)]) hx hb dX8_forget_40 hl (k := 0) rfl rfl (by decide) rfl (fun ls hl => ?_)
      refine lv_goto (tgt := 2) hx hb dX8_forget_43 (by decide) ?_
      exact ih_1 ((x2_3 + 1), x2_h_mp) _ _ _ _ _ ⟨lp_up hk_1 c_2, lp_up0 hz_1 c_2, hP, hD, hS, lv_sub hl [0, 1, 2, 3] rfl, hM, rfl, rfl⟩
    · rw [if_neg c_3] at hM
      refine lv_aload_n hx hb dX8_forget_15 rfl (lv_at hl 1 rfl) ?_
      refine lv_aload_n hx hb dX8_forget_16 rfl (lv_at hl 1 rfl) ?_
      refine lv_iload_n hx hb dX8_forget_17 rfl (lv_at hl 2 rfl) ?_
      refine lv_iload_n hx hb dX8_forget_18 rfl (lv_at hl 0 rfl) ?_
      obtain ⟨y9, hy9⟩ : ∃ y9, (F_X8_pageIn PP x2_h_mp a1 x2_3) = y9 := ⟨_, rfl⟩
      have hcon := (c_X8_pageIn l hl0 D ad H.size h_el h_li h_A h_mp h_S k_el k_mp (h_li_0) (h_S_1) (h_S_2) (h_S_4) (.int n) (.int tk) (h_S_7) (h_S_8) (h_S_9) kI AL PP capE x2_h_mp a1 x2_3 hlen hpos hbig (by have y0 := f_nle c_2; have z0 := hy0; have z1 := hy1; have z2 := hz_1; have q_len := hlen; have q_pos := hpos; have q_big := hbig; have q_n := nI_toInt (n := PP.length) (by omega); omega))
      rw [hy9] at hcon
      refine kr_ (va_runV (As := [.int a1, .int x2_3]) (rest := [.ref h_S]) ⟨hx, hb, hml, hown, hts⟩ hcon (cwV 2 hts gX8_forget_X8_pageIn rfl rfl rfl (by decide +kernel) ⟨Nat.le_of_ble_eq_true rfl, Nat.le_of_ble_eq_true rfl⟩) ⟨PR_.blind, va_recv hK hP (ci := 11) (q0 := 4) rfl rfl, PR_.pre hF hK (hP.part [0, 1, 2, 3, 4] rfl) hS hA [0, 1, 2] rfl⟩ rfl rfl hl.1 rfl (lv_room (Nat.le_of_ble_eq_true rfl)) dX8_forget_19 ⟨(Nat.le_of_ble_eq_true rfl), (Nat.le_of_ble_eq_true rfl)⟩) hP hS hA (fun H locs hP hS => ?_)
      subst hy9
      refine W.eq (g2 := F0 m 22 ls [.ref (pad AL (F_X8_pageIn PP x2_h_mp a1 x2_3)), .ref h_S]) rfl ?_
      have hPg := pgw (k := (F_X8_pageIn PP x2_h_mp a1 x2_3)) hP hlen (by have y0 := f_nle c_2; have z0 := hy0; have z1 := hy1; have z2 := hz_1; have rn_X8_pageIn := R_X8_pageIn PP x2_h_mp a1 x2_3 hpos hbig; have q_len := hlen; have q_pos := hpos; have q_big := hbig; have q_n := nI_toInt (n := PP.length) (by omega); omega)
      obtain ⟨y9, hy9⟩ : ∃ y9, (F_X8_ageOf tk ((pgd PP (F_X8_pageIn PP x2_h_mp a1 x2_3)).2.2.1)) = y9 := ⟨_, rfl⟩
      have hcon := (c_X8_ageOf l hl0 D ad H.size h_S (pad AL (F_X8_pageIn PP x2_h_mp a1 x2_3)) (.ref h_A) (h_S_1) (h_S_2) (.ref h_mp) (h_S_4) (.int n) (h_S_7) (h_S_8) (h_S_9) (.int (pgd PP (F_X8_pageIn PP x2_h_mp a1 x2_3)).1) (.int (pgd PP (F_X8_pageIn PP x2_h_mp a1 x2_3)).2.1) (.ref (qad AL (F_X8_pageIn PP x2_h_mp a1 x2_3))) tk ((pgd PP (F_X8_pageIn PP x2_h_mp a1 x2_3)).2.2.1))
      rw [hy9] at hcon
      refine kr_ (va_runV (As := [.ref (pad AL (F_X8_pageIn PP x2_h_mp a1 x2_3))]) (rest := []) ⟨hx, hb, hml, hown, hts⟩ hcon (cwV 1 hts gX8_forget_X8_ageOf rfl rfl rfl (by decide +kernel) ⟨Nat.le_of_ble_eq_true rfl, Nat.le_of_ble_eq_true rfl⟩) ⟨PR_.blind, va_recv hK hP (ci := 11) (q0 := 4) rfl rfl, PR_.pre hF hK ((hP.sub [4] rfl).app (hPg.sub [0] rfl)) hS hA [] rfl⟩ rfl rfl hl.1 rfl (lv_room (Nat.le_of_ble_eq_true rfl)) dX8_forget_22 ⟨(Nat.le_of_ble_eq_true rfl), (Nat.le_of_ble_eq_true rfl)⟩) hP hS hA (fun H locs hP hS => ?_)
      subst hy9
      refine W.eq (g2 := F0 m 25 ls [.int (F_X8_ageOf tk ((pgd PP (F_X8_pageIn PP x2_h_mp a1 x2_3)).2.2.1))]) rfl ?_
      refine lv_iload_n hx hb dX8_forget_25 rfl (lv_at hl 3 rfl) ?_
      refine lv_icmp_lt (tgt := 40) hx hb dX8_forget_26 (by decide) (fun c_6 => ?_) (fun c_6 => ?_)
      · rw [if_pos c_6] at hM
        refine lv_iinc (v := (x2_3 + 1)) (lv' := [(3, .int (x2_3 + 1)), (0, .ref h_S), (1, .int a1), (2, .int a2)]) hx hb dX8_forget_40 hl (k := 0) rfl rfl (by decide) rfl (fun ls hl => ?_)
        refine lv_goto (tgt := 2) hx hb dX8_forget_43 (by decide) ?_
        exact ih_1 ((x2_3 + 1), x2_h_mp) _ _ _ _ _ ⟨lp_up hk_1 c_2, lp_up0 hz_1 c_2, hP, hD, hS, lv_sub hl [0, 1, 2, 3] rfl, hM, rfl, rfl⟩
      · rw [if_neg c_6] at hM
        refine lv_aload_n hx hb dX8_forget_29 rfl (lv_at hl 1 rfl) ?_
        refine va_get (D := D) (ci := 11) (v := .ref h_mp) (own := RX8) (C := RX8) (T := TX8) (N := 10) hx hb hts hi_X8 hown hK hP 4 rfl rfl 3 (by decide) (hts (.fieldLink RX8 18 "CanalMaps$Survey" "maps" "[I") (List.mem_of_getElem? (i := 2) (by decide +kernel))) (fun _ h9 => h9) rfl dX8_forget_30 ?_
        refine lv_iload_n hx hb dX8_forget_33 rfl (lv_at hl 2 rfl) ?_
        refine lv_iload_n hx hb dX8_forget_34 rfl (lv_at hl 0 rfl) ?_
        obtain ⟨y9, hy9⟩ : ∃ y9, (F_X8_pair a1 x2_3) = y9 := ⟨_, rfl⟩
        have hcon := (c_X8_pair l hl0 D ad H.size a1 x2_3)
        rw [hy9] at hcon
        refine kr_ (va_runS (As := [.int a1, .int x2_3]) (rest := [.ref h_mp]) ⟨hx, hb, hml, hown, hts⟩ hcon (va_cwS 2 hts gX8_forget_X8_pair rfl rfl rfl (by decide +kernel) ⟨Nat.le_of_ble_eq_true rfl, Nat.le_of_ble_eq_true rfl⟩) ⟨PR_.blind, PR_.pre hF hK (hP.sub [] rfl) hS hA [] rfl⟩ rfl rfl hl.1 rfl (lv_room (Nat.le_of_ble_eq_true rfl)) dX8_forget_35 ⟨(Nat.le_of_ble_eq_true rfl), (Nat.le_of_ble_eq_true rfl)⟩) hP hS hA (fun H locs hP hS => ?_)
        subst hy9
        refine W.eq (g2 := F0 m 38 ls [.int (F_X8_pair a1 x2_3), .ref h_mp]) rfl ?_
        refine lv_iconst (v := 0) hx hb dX8_forget_38 (by decide) ?_
        refine ka_iast (g := (upd x2_h_mp (ix (F_X8_pair a1 x2_3)) 0)) hx hb hK hP hD hS 3 1 rfl rfl (vinI (by have y0 := f_nle c_2; have y2 := f_nlt c_6; have z0 := hy0; have z1 := hy1; have z2 := hz_1; have rp1 := R_X8_pair a1 x2_3; have rn_X8_pageIn := R_X8_pageIn PP x2_h_mp a1 x2_3 hpos hbig; have b13 := Int32.toInt_lt (F_X8_pair a1 x2_3); have d13 := Int32.le_toInt (F_X8_pair a1 x2_3); have q_len := hlen; have q_pos := hpos; have q_big := hbig; have q_n := nI_toInt (n := PP.length) (by omega); omega) (by have y0 := f_nle c_2; have y2 := f_nlt c_6; have z0 := hy0; have z1 := hy1; have z2 := hz_1; have rp1 := R_X8_pair a1 x2_3; have rn_X8_pageIn := R_X8_pageIn PP x2_h_mp a1 x2_3 hpos hbig; have b13 := Int32.toInt_lt (F_X8_pair a1 x2_3); have d13 := Int32.le_toInt (F_X8_pair a1 x2_3); have q_len := hlen; have q_pos := hpos; have q_big := hbig; have q_n := nI_toInt (n := PP.length) (by omega); omega)) rfl dX8_forget_39 (fun H locs hP hD hS => ?_)
        have hP : va_P D vwCl ([(h_el, .inl (k_el, capE, .inr (.inr (.inr (.inr (egl AL)))))), (h_li, .inr (4, [h_li_0, .ref h_el, .int (nI PP.length)])), (h_A, .inr (5, [.ref h_li, .ref (pad AL 0)])), (h_mp, .inl (k_mp, 36, .inl (upd x2_h_mp (ix (F_X8_pair a1 x2_3)) 0))), (h_S, .inr (11, [.ref h_A, h_S_1, h_S_2, .ref h_mp, h_S_4, .int n, .int tk, h_S_7, h_S_8, h_S_9]))] ++ pgl kI AL PP) H := hP
        have hD : va_D A ([(h_el, .inl (k_el, capE, .inr (.inr (.inr (.inr (egl AL)))))), (h_li, .inr (4, [h_li_0, .ref h_el, .int (nI PP.length)])), (h_A, .inr (5, [.ref h_li, .ref (pad AL 0)])), (h_mp, .inl (k_mp, 36, .inl (upd x2_h_mp (ix (F_X8_pair a1 x2_3)) 0))), (h_S, .inr (11, [.ref h_A, h_S_1, h_S_2, .ref h_mp, h_S_4, .int n, .int tk, h_S_7, h_S_8, h_S_9]))] ++ pgl kI AL PP) := hD
        refine lv_iinc (v := (x2_3 + 1)) (lv' := [(3, .int (x2_3 + 1)), (0, .ref h_S), (1, .int a1), (2, .int a2)]) hx hb dX8_forget_40 hl (k := 0) rfl rfl (by decide) rfl (fun ls hl => ?_)
        refine lv_goto (tgt := 2) hx hb dX8_forget_43 (by decide) ?_
        exact ih_1 ((x2_3 + 1), (upd x2_h_mp (ix (F_X8_pair a1 x2_3)) 0)) _ _ _ _ _ ⟨lp_up hk_1 c_2, lp_up0 hz_1 c_2, hP, hD, hS, lv_sub hl [0, 1, 2, 3] rfl, hM, rfl, rfl⟩
def F_X8_loseFirst (PP : List PG) (pk : Nat → Int32) (cn : Int32) (lo : Int32) : Int32 × (Nat → Int32) × Int32 × Int32 := ((pgd PP (F_X8_pageOfLetter PP pk cn 0)).1, ((F_X5_removeFirst pk cn 1).1), (F_X5_removeFirst pk cn 1).2, (lo + 1))
set_option maxHeartbeats 4000000 in
set_option maxRecDepth 100000 in
theorem c_X8_loseFirst (l : Launch) (hl0 : l.stackTraces = false) (D : va_G) (ad : Nat → Nat) (sz : Nat) (h_el : Nat) (h_li : Nat) (h_A : Nat) (h_pk : Nat) (h_L : Nat) (h_S : Nat) (k_el : ClassId) (k_pk : ClassId) (h_li_0 : Value) (h_L_2 : Value) (h_S_1 : Value) (h_S_2 : Value) (h_S_3 : Value) (h_S_5 : Value) (h_S_6 : Value) (h_S_7 : Value) (h_S_9 : Value) (kI : ClassId) (AL : List (Nat × Nat)) (PP : List PG) (capE : Nat) (cap : Nat) (pk : Nat → Int32) (cn : Int32) (lo : Int32) (hlen : AL.length = PP.length) (hpos : 0 < PP.length) (hbig : PP.length ≤ 2000000) (hy1 : PP.length ≤ capE) (hy2 : 0 ≤ cn.toInt) (hy3 : cn.toInt ≤ cap) (hy4 : cn.toInt ≤ 1000000) (hy5 : 64 ≤ cap) (hy6 : cap ≤ 2000000) : Met l yX8_loseFirst wsX8_loseFirst ({ frames := 5, cells := 0, slots := 0, locals := 116 }) (PC_ D ad ([(h_el, .inl (k_el, capE, .inr (.inr (.inr (.inr (egl AL)))))), (h_li, .inr (4, [h_li_0, .ref h_el, .int (nI PP.length)])), (h_A, .inr (5, [.ref h_li, .ref (pad AL 0)])), (h_pk, .inl (k_pk, cap, .inl pk)), (h_L, .inr (8, [.ref h_pk, .int cn, h_L_2])), (h_S, .inr (11, [.ref h_A, h_S_1, h_S_2, h_S_3, .ref h_L, h_S_5, h_S_6, h_S_7, .int lo, h_S_9]))] ++ pgl kI AL PP) [(k_el, .object "java/lang/Object"), (k_pk, .int), (kI, .int)] sz [.ref h_S]) (QG_ D (fun q i => some (.int (F_X8_loseFirst PP pk cn lo).1)) (fun q i => 0 ≤ ((F_X8_loseFirst PP pk cn lo).2.2.1).toInt ∧ ((F_X8_loseFirst PP pk cn lo).2.2.1).toInt ≤ cap ∧ ((F_X8_loseFirst PP pk cn lo).2.2.1).toInt ≤ 1000000 ∧ 64 ≤ cap ∧ cap ≤ 2000000 ∧ ((F_X8_loseFirst PP pk cn lo).2.2.1).toInt ≤ cn.toInt) (fun q k i => ([(h_el, .inl (k_el, capE, .inr (.inr (.inr (.inr (egl AL)))))), (h_li, .inr (4, [h_li_0, .ref h_el, .int (nI PP.length)])), (h_A, .inr (5, [.ref h_li, .ref (pad AL 0)])), (h_pk, .inl (k_pk, cap, .inl (F_X8_loseFirst PP pk cn lo).2.1)), (h_L, .inr (8, [.ref h_pk, .int (F_X8_loseFirst PP pk cn lo).2.2.1, h_L_2])), (h_S, .inr (11, [.ref h_A, h_S_1, h_S_2, h_S_3, .ref h_L, h_S_5, h_S_6, h_S_7, .int (F_X8_loseFirst PP pk cn lo).2.2.2, h_S_9]))] ++ pgl kI AL PP)) (fun q k i => [(k_el, .object "java/lang/Object"), (k_pk, .int), (kI, .int)]) (va_A ([(h_el, .inl (k_el, capE, .inr (.inr (.inr (.inr (egl AL)))))), (h_li, .inr (4, [h_li_0, .ref h_el, .int (nI PP.length)])), (h_A, .inr (5, [.ref h_li, .ref (pad AL 0)])), (h_pk, .inl (k_pk, cap, .inl pk)), (h_L, .inr (8, [.ref h_pk, .int cn, h_L_2])), (h_S, .inr (11, [.ref h_A, h_S_1, h_S_2, h_S_3, .ref h_L, h_S_5, h_S_6, h_S_7, .int lo, h_S_9]))] ++ pgl kI AL PP) sz)) 0 0 (va_A ([(h_el, .inl (k_el, capE, .inr (.inr (.inr (.inr (egl AL)))))), (h_li, .inr (4, [h_li_0, .ref h_el, .int (nI PP.length)])), (h_A, .inr (5, [.ref h_li, .ref (pad AL 0)])), (h_pk, .inl (k_pk, cap, .inl pk)), (h_L, .inr (8, [.ref h_pk, .int cn, h_L_2])), (h_S, .inr (11, [.ref h_A, h_S_1, h_S_2, h_S_3, .ref h_L, h_S_5, h_S_6, h_S_7, .int lo, h_S_9]))] ++ pgl kI AL PP) sz) := by
  refine Met.ofW (cc := cX8_loseFirst) (maxL := 2) (ret := (some .int)) (by decide) rfl ?_
  intro p e s m args below meth c s₁ B hml hv
  obtain ⟨rfl, hsz, hP, hK, hD0, hF⟩ := hv
  have hx := B.exec
  have hb := B.bytes
  have hr := B.returns
  have hts := atoms_spec (ws := wsX8_loseFirst) B.pre
  have hown : s.vm.findClass RX8 = some m.cls := findClass_of_methodNamed B.named
  have hlocks := B.notSynchronized
  subst hsz
  have hD := hD0.self (sz := s.heap.size)
  generalize hAe : va_A ([(h_el, .inl (k_el, capE, .inr (.inr (.inr (.inr (egl AL)))))), (h_li, .inr (4, [h_li_0, .ref h_el, .int (nI PP.length)])), (h_A, .inr (5, [.ref h_li, .ref (pad AL 0)])), (h_pk, .inl (k_pk, cap, .inl pk)), (h_L, .inr (8, [.ref h_pk, .int cn, h_L_2])), (h_S, .inr (11, [.ref h_A, h_S_1, h_S_2, h_S_3, .ref h_L, h_S_5, h_S_6, h_S_7, .int lo, h_S_9]))] ++ pgl kI AL PP) s.heap.size = A at hD hF ⊢
  have hA : ∀ q : Nat, s.heap.size ≤ q → A q := fun q h => by rw [← hAe]; exact Or.inr h
  obtain ⟨H, hHe⟩ : ∃ H : Heap, H = s.heap := ⟨_, rfl⟩
  have hS : va_S A s.heap H [] := by rw [hHe]; exact va_S.rf
  have hP : va_P D vwCl ([(h_el, .inl (k_el, capE, .inr (.inr (.inr (.inr (egl AL)))))), (h_li, .inr (4, [h_li_0, .ref h_el, .int (nI PP.length)])), (h_A, .inr (5, [.ref h_li, .ref (pad AL 0)])), (h_pk, .inl (k_pk, cap, .inl pk)), (h_L, .inr (8, [.ref h_pk, .int cn, h_L_2])), (h_S, .inr (11, [.ref h_A, h_S_1, h_S_2, h_S_3, .ref h_L, h_S_5, h_S_6, h_S_7, .int lo, h_S_9]))] ++ pgl kI AL PP) H := by rw [hHe]; exact hP
  rw [← hHe]
  have hi_X6 : ∀ w ∈ wsX60, w ∈ wsX8_loseFirst := by decide +kernel
  have hi_X8 : ∀ w ∈ wsX80, w ∈ wsX8_loseFirst := by decide +kernel
  have hl := lv_entry [.ref h_S] (n := 2) (Nat.le_of_ble_eq_true rfl)
  rw [lg_entry_eq]
  generalize (lg_sl [.ref h_S] ++ List.replicate (2 - (lg_sl [.ref h_S]).length) Slot.unset).toArray = ls at hl ⊢
  have hl : lv_has ls 2 [(0, .ref h_S)] := hl
  have hM : F_X8_loseFirst PP pk cn lo = ((pgd PP (F_X8_pageOfLetter PP pk cn 0)).1, ((F_X5_removeFirst pk cn 1).1), (F_X5_removeFirst pk cn 1).2, (lo + 1)) := rfl
  refine lv_aload_n hx hb dX8_loseFirst_0 rfl (lv_at hl 0 rfl) ?_
  refine lv_iconst (v := 0) hx hb dX8_loseFirst_1 (by decide) ?_
  obtain ⟨y9, hy9⟩ : ∃ y9, (F_X8_pageOfLetter PP pk cn 0) = y9 := ⟨_, rfl⟩
  have hcon := (c_X8_pageOfLetter l hl0 D ad H.size h_el h_li h_A h_pk h_L h_S k_el k_pk (h_li_0) (h_L_2) (h_S_1) (h_S_2) (h_S_3) (h_S_5) (h_S_6) (h_S_7) (.int lo) (h_S_9) kI AL PP capE cap pk cn 0 hlen hpos hbig (by have z0 := hy1; have z1 := hy2; have z2 := hy3; have z3 := hy4; have z4 := hy5; have z5 := hy6; have q_len := hlen; have q_pos := hpos; have q_big := hbig; have q_n := nI_toInt (n := PP.length) (by omega); omega) (by have z0 := hy1; have z1 := hy2; have z2 := hy3; have z3 := hy4; have z4 := hy5; have z5 := hy6; have q_len := hlen; have q_pos := hpos; have q_big := hbig; have q_n := nI_toInt (n := PP.length) (by omega); omega) (by have z0 := hy1; have z1 := hy2; have z2 := hy3; have z3 := hy4; have z4 := hy5; have z5 := hy6; have q_len := hlen; have q_pos := hpos; have q_big := hbig; have q_n := nI_toInt (n := PP.length) (by omega); omega) (by have z0 := hy1; have z1 := hy2; have z2 := hy3; have z3 := hy4; have z4 := hy5; have z5 := hy6; have q_len := hlen; have q_pos := hpos; have q_big := hbig; have q_n := nI_toInt (n := PP.length) (by omega); omega) (by have z0 := hy1; have z1 := hy2; have z2 := hy3; have z3 := hy4; have z4 := hy5; have z5 := hy6; have q_len := hlen; have q_pos := hpos; have q_big := hbig; have q_n := nI_toInt (n := PP.length) (by omega); omega) (by have z0 := hy1; have z1 := hy2; have z2 := hy3; have z3 := hy4; have z4 := hy5; have z5 := hy6; have q_len := hlen; have q_pos := hpos; have q_big := hbig; have q_n := nI_toInt (n := PP.length) (by omega); omega))
  rw [hy9] at hcon
  refine kr_ (va_runV (As := [.int 0]) (rest := []) ⟨hx, hb, hml, hown, hts⟩ hcon (cwV 1 hts gX8_loseFirst_X8_pageOfLetter rfl rfl rfl (by decide +kernel) ⟨Nat.le_of_ble_eq_true rfl, Nat.le_of_ble_eq_true rfl⟩) ⟨PR_.blind, va_recv hK hP (ci := 11) (q0 := 5) rfl rfl, PR_.pre hF hK (hP.part [0, 1, 2, 3, 4, 5] rfl) hS hA [0, 1, 2] rfl⟩ rfl rfl hl.1 rfl (lv_room (Nat.le_of_ble_eq_true rfl)) dX8_loseFirst_2 ⟨(Nat.le_of_ble_eq_true rfl), (Nat.le_of_ble_eq_true rfl)⟩) hP hS hA (fun H locs hP hS => ?_)
  subst hy9
  refine W.eq (g2 := F0 m 5 ls [.ref (pad AL (F_X8_pageOfLetter PP pk cn 0))]) rfl ?_
  have hPg := pgw (k := (F_X8_pageOfLetter PP pk cn 0)) hP hlen (by have z0 := hy1; have z1 := hy2; have z2 := hy3; have z3 := hy4; have z4 := hy5; have z5 := hy6; have rn_X8_pageOfLetter := R_X8_pageOfLetter PP pk cn 0 hpos hbig; have q_len := hlen; have q_pos := hpos; have q_big := hbig; have q_n := nI_toInt (n := PP.length) (by omega); omega)
  refine va_getN (D := D) (ci := 9) (v := .int (pgd PP (F_X8_pageOfLetter PP pk cn 0)).1) (own := RX8) (C := RX6) (T := TX6) (N := 4) hx hb hts hi_X6 hown hK hPg 0 rfl rfl 0 (by decide) (fxn_ hF (RX8, 185, "CanalMaps$Page", "origin", "I")) (fun _ h9 => h9) rfl dX8_loseFirst_5 ?_
  refine lv_istore_n (lv' := [(1, .int (pgd PP (F_X8_pageOfLetter PP pk cn 0)).1), (0, .ref h_S)]) hx hb dX8_loseFirst_8 rfl hl (by decide) rfl (fun ls hl => ?_)
  refine lv_aload_n hx hb dX8_loseFirst_9 rfl (lv_at hl 1 rfl) ?_
  refine va_get (D := D) (ci := 11) (v := .ref h_L) (own := RX8) (C := RX8) (T := TX8) (N := 10) hx hb hts hi_X8 hown hK hP 5 rfl rfl 4 (by decide) (hts (.fieldLink RX8 24 "CanalMaps$Survey" "letters" "LCanalMaps$Letters;") (List.mem_of_getElem? (i := 1) (by decide +kernel))) (fun _ h9 => h9) rfl dX8_loseFirst_10 ?_
  refine lv_iconst (v := 1) hx hb dX8_loseFirst_13 (by decide) ?_
  obtain ⟨y9, hy9⟩ : ∃ y9, (F_X5_removeFirst pk cn 1) = y9 := ⟨_, rfl⟩
  have hcon := (c_X5_removeFirst l hl0 D ad H.size h_pk h_L k_pk (h_L_2) cap pk cn 1 (by have z0 := hy1; have z1 := hy2; have z2 := hy3; have z3 := hy4; have z4 := hy5; have z5 := hy6; have q_len := hlen; have q_pos := hpos; have q_big := hbig; have q_n := nI_toInt (n := PP.length) (by omega); omega) (by have z0 := hy1; have z1 := hy2; have z2 := hy3; have z3 := hy4; have z4 := hy5; have z5 := hy6; have q_len := hlen; have q_pos := hpos; have q_big := hbig; have q_n := nI_toInt (n := PP.length) (by omega); omega) (by have z0 := hy1; have z1 := hy2; have z2 := hy3; have z3 := hy4; have z4 := hy5; have z5 := hy6; have q_len := hlen; have q_pos := hpos; have q_big := hbig; have q_n := nI_toInt (n := PP.length) (by omega); omega) (by have z0 := hy1; have z1 := hy2; have z2 := hy3; have z3 := hy4; have z4 := hy5; have z5 := hy6; have q_len := hlen; have q_pos := hpos; have q_big := hbig; have q_n := nI_toInt (n := PP.length) (by omega); omega) (by have z0 := hy1; have z1 := hy2; have z2 := hy3; have z3 := hy4; have z4 := hy5; have z5 := hy6; have q_len := hlen; have q_pos := hpos; have q_big := hbig; have q_n := nI_toInt (n := PP.length) (by omega); omega))
  rw [hy9] at hcon
  refine kc_ (wc := [(h_pk, .inl (k_pk, cap, .inl pk)), (h_L, .inr (8, [.ref h_pk, .int cn, h_L_2]))]) (wr := ([(h_el, .inl (k_el, capE, .inr (.inr (.inr (.inr (egl AL)))))), (h_li, .inr (4, [h_li_0, .ref h_el, .int (nI PP.length)])), (h_A, .inr (5, [.ref h_li, .ref (pad AL 0)])), (h_S, .inr (11, [.ref h_A, h_S_1, h_S_2, h_S_3, .ref h_L, h_S_5, h_S_6, h_S_7, .int lo, h_S_9]))] ++ pgl kI AL PP)) (va_runV (As := [.int 1]) (rest := []) ⟨hx, hb, hml, hown, hts⟩ hcon (cwV 1 hts gX8_loseFirst_X5_removeFirst rfl rfl rfl (by decide +kernel) ⟨Nat.le_of_ble_eq_true rfl, Nat.le_of_ble_eq_true rfl⟩) ⟨PC_.blind, va_recv hK hP (ci := 8) (q0 := 4) rfl rfl, PC_.pre hF hK hP hD hS hA [3, 4] [1] rfl (by decide) rfl⟩ rfl rfl hl.1 rfl (lv_room (Nat.le_of_ble_eq_true rfl)) dX8_loseFirst_14 ⟨(Nat.le_of_ble_eq_true rfl), (Nat.le_of_ble_eq_true rfl)⟩) hK hP hD hS hA [3, 4] ([0, 1, 2, 5] ++ (tl_ 6 (pgl kI AL PP))) [0, 2] rfl (tl_C [0, 1, 2, 5] rfl rfl) (tl_nd [0, 1, 2, 5] (by decide) (by decide)) (tl_dis2 [0, 1, 2, 5] [3, 4] (by decide) (by decide)) rfl (fun qa_2 ka_2 ia H locs hpo hP hD hK hS => ?_)
  subst hy9
  have hen_2 : 0 ≤ ((F_X5_removeFirst pk cn 1).2).toInt ∧ ((F_X5_removeFirst pk cn 1).2).toInt ≤ cn.toInt := hpo
  have hP := va_P.swap hP
  have hD := va_D.swap hD
  have hK := hK.sub [0, 2, 1] rfl
  have hP : va_P D vwCl ([(h_el, .inl (k_el, capE, .inr (.inr (.inr (.inr (egl AL)))))), (h_li, .inr (4, [h_li_0, .ref h_el, .int (nI PP.length)])), (h_A, .inr (5, [.ref h_li, .ref (pad AL 0)])), (h_S, .inr (11, [.ref h_A, h_S_1, h_S_2, h_S_3, .ref h_L, h_S_5, h_S_6, h_S_7, .int lo, h_S_9])), (h_pk, .inl (k_pk, cap, .inl (F_X5_removeFirst pk cn 1).1)), (h_L, .inr (8, [.ref h_pk, .int (F_X5_removeFirst pk cn 1).2, h_L_2]))] ++ pgl kI AL PP) H := hP
  have hD : va_D A ([(h_el, .inl (k_el, capE, .inr (.inr (.inr (.inr (egl AL)))))), (h_li, .inr (4, [h_li_0, .ref h_el, .int (nI PP.length)])), (h_A, .inr (5, [.ref h_li, .ref (pad AL 0)])), (h_S, .inr (11, [.ref h_A, h_S_1, h_S_2, h_S_3, .ref h_L, h_S_5, h_S_6, h_S_7, .int lo, h_S_9])), (h_pk, .inl (k_pk, cap, .inl (F_X5_removeFirst pk cn 1).1)), (h_L, .inr (8, [.ref h_pk, .int (F_X5_removeFirst pk cn 1).2, h_L_2]))] ++ pgl kI AL PP) := hD
  have hK : va_K D vwCl [(k_el, .object "java/lang/Object"), (k_pk, .int), (kI, .int)] s := hK
  refine W.eq (g2 := F0 m 17 ls []) rfl ?_
  refine lv_aload_n hx hb dX8_loseFirst_17 rfl (lv_at hl 1 rfl) ?_
  refine lv_dup hx hb dX8_loseFirst_18 rfl ?_
  refine va_get (D := D) (ci := 11) (v := .int lo) (own := RX8) (C := RX8) (T := TX8) (N := 10) hx hb hts hi_X8 hown hK hP 3 rfl rfl 8 (by decide) (hts (.fieldLink RX8 38 "CanalMaps$Survey" "lost" "I") (List.mem_of_getElem? (i := 2) (by decide +kernel))) (fun _ h9 => h9) rfl dX8_loseFirst_19 ?_
  refine lv_iconst (v := 1) hx hb dX8_loseFirst_22 (by decide) ?_
  refine lv_iadd hx hb dX8_loseFirst_23 ?_
  refine va_put (D := D) (ci := 11) (v := .int (lo + 1)) (ty := .int) (own := RX8) (C := RX8) (T := TX8) (N := 10) hx hb hts hi_X8 tyX8 tyX8_ok nmX8 hown hK hP hD hS 3 rfl rfl 8 (by decide) (hts (.fieldLink RX8 38 "CanalMaps$Survey" "lost" "I") (List.mem_of_getElem? (i := 2) (by decide +kernel))) (fun _ h9 => h9) rfl (by decide +kernel) rfl rfl (Nat.le_of_ble_eq_true rfl) dX8_loseFirst_24 (fun H locs hP hD hS => ?_)
  have hP : va_P D vwCl ([(h_el, .inl (k_el, capE, .inr (.inr (.inr (.inr (egl AL)))))), (h_li, .inr (4, [h_li_0, .ref h_el, .int (nI PP.length)])), (h_A, .inr (5, [.ref h_li, .ref (pad AL 0)])), (h_S, .inr (11, [.ref h_A, h_S_1, h_S_2, h_S_3, .ref h_L, h_S_5, h_S_6, h_S_7, .int (lo + 1), h_S_9])), (h_pk, .inl (k_pk, cap, .inl (F_X5_removeFirst pk cn 1).1)), (h_L, .inr (8, [.ref h_pk, .int (F_X5_removeFirst pk cn 1).2, h_L_2]))] ++ pgl kI AL PP) H := hP
  have hD : va_D A ([(h_el, .inl (k_el, capE, .inr (.inr (.inr (.inr (egl AL)))))), (h_li, .inr (4, [h_li_0, .ref h_el, .int (nI PP.length)])), (h_A, .inr (5, [.ref h_li, .ref (pad AL 0)])), (h_S, .inr (11, [.ref h_A, h_S_1, h_S_2, h_S_3, .ref h_L, h_S_5, h_S_6, h_S_7, .int (lo + 1), h_S_9])), (h_pk, .inl (k_pk, cap, .inl (F_X5_removeFirst pk cn 1).1)), (h_L, .inr (8, [.ref h_pk, .int (F_X5_removeFirst pk cn 1).2, h_L_2]))] ++ pgl kI AL PP) := hD
  refine lv_iload_n hx hb dX8_loseFirst_27 rfl (lv_at hl 0 rfl) ?_
  refine W.widen (k := 0) (n := 0) (Nat.le_of_ble_eq_true rfl) (Nat.le_of_ble_eq_true rfl) ?_
  exact W.iret (v := (pgd PP (F_X8_pageOfLetter PP pk cn 0)).1) hx hb hr (QG_.mk (fun _ => 0) (fun _ => 0) (fun _ => 0) ([0, 1, 2, 4, 5, 3] ++ (tl_ 6 (pgl kI AL PP))) [0, 1, 2] hP hD hK hS (by rw [hM]) (by rw [hM]; exact ⟨(show 0 ≤ ((F_X5_removeFirst pk cn 1).2).toInt from (by have z0 := hy1; have z1 := hy2; have z2 := hy3; have z3 := hy4; have z4 := hy5; have z5 := hy6; have z6 := hen_2; have b1 := Int32.toInt_lt ((F_X5_removeFirst pk cn 1).2); have d1 := Int32.le_toInt ((F_X5_removeFirst pk cn 1).2); have q_len := hlen; have q_pos := hpos; have q_big := hbig; have q_n := nI_toInt (n := PP.length) (by omega); omega)), (show ((F_X5_removeFirst pk cn 1).2).toInt ≤ cap from (by have z0 := hy1; have z1 := hy2; have z2 := hy3; have z3 := hy4; have z4 := hy5; have z5 := hy6; have z6 := hen_2; have b2 := Int32.toInt_lt ((F_X5_removeFirst pk cn 1).2); have d2 := Int32.le_toInt ((F_X5_removeFirst pk cn 1).2); have q_len := hlen; have q_pos := hpos; have q_big := hbig; have q_n := nI_toInt (n := PP.length) (by omega); omega)), (show ((F_X5_removeFirst pk cn 1).2).toInt ≤ 1000000 from (by have z0 := hy1; have z1 := hy2; have z2 := hy3; have z3 := hy4; have z4 := hy5; have z5 := hy6; have z6 := hen_2; have b3 := Int32.toInt_lt ((F_X5_removeFirst pk cn 1).2); have d3 := Int32.le_toInt ((F_X5_removeFirst pk cn 1).2); have q_len := hlen; have q_pos := hpos; have q_big := hbig; have q_n := nI_toInt (n := PP.length) (by omega); omega)), (show 64 ≤ cap from (by have z0 := hy1; have z1 := hy2; have z2 := hy3; have z3 := hy4; have z4 := hy5; have z5 := hy6; have z6 := hen_2; have q_len := hlen; have q_pos := hpos; have q_big := hbig; have q_n := nI_toInt (n := PP.length) (by omega); omega)), (show cap ≤ 2000000 from (by have z0 := hy1; have z1 := hy2; have z2 := hy3; have z3 := hy4; have z4 := hy5; have z5 := hy6; have z6 := hen_2; have q_len := hlen; have q_pos := hpos; have q_big := hbig; have q_n := nI_toInt (n := PP.length) (by omega); omega)), (show ((F_X5_removeFirst pk cn 1).2).toInt ≤ cn.toInt from (by have z0 := hy1; have z1 := hy2; have z2 := hy3; have z3 := hy4; have z4 := hy5; have z5 := hy6; have z6 := hen_2; have b4 := Int32.toInt_lt ((F_X5_removeFirst pk cn 1).2); have d4 := Int32.le_toInt ((F_X5_removeFirst pk cn 1).2); have q_len := hlen; have q_pos := hpos; have q_big := hbig; have q_n := nI_toInt (n := PP.length) (by omega); omega))⟩) (by rw [hM]; exact tl_C [0, 1, 2, 4, 5, 3] rfl rfl) (tl_nd [0, 1, 2, 4, 5, 3] (by decide) (by decide)) rfl) hS.2.2 dX8_loseFirst_28
def K_X8_copyFrom_53 (ds : Nat → Int32) (cs : Nat → Int32) (mp : Nat → Int32) (ds2 : Nat → Int32) (cs2 : Nat → Int32) (mp2 : Nat → Int32) (n2 : Int32) (tk2 : Int32) (av2 : Int32) (lo2 : Int32) (md2 : Int32) : (Nat × (Nat → Int32) × Int32 × Int32 × Nat × Nat) → ((Nat → Int32) × (Nat → Int32) × (Nat → Int32) × Nat × (Nat → Int32) × Int32 × Int32 × Int32 × Int32 × Int32 × Int32 × Int32 × Nat × Nat)
  | (y53_0, y53_1, y53_2, y53_3, y53_4, y53_5) => ((va_cpy ds2 ds 0 0 6), (va_cpy cs2 cs 0 0 36), (va_cpy mp2 mp 0 0 36), y53_0, y53_1, y53_2, y53_3, n2, tk2, av2, lo2, md2, (0 + y53_4), (0 + y53_5))
theorem CK_X8_copyFrom_53 (ds : Nat → Int32) (cs : Nat → Int32) (mp : Nat → Int32) (ds2 : Nat → Int32) (cs2 : Nat → Int32) (mp2 : Nat → Int32) (n2 : Int32) (tk2 : Int32) (av2 : Int32) (lo2 : Int32) (md2 : Int32) (y9 : Nat × (Nat → Int32) × Int32 × Int32 × Nat × Nat) : (0 + y9.2.2.2.2.1) ≤ (K_X8_copyFrom_53 ds cs mp ds2 cs2 mp2 n2 tk2 av2 lo2 md2 y9).2.2.2.2.2.2.2.2.2.2.2.2.1 ∧ (0 + y9.2.2.2.2.2) ≤ (K_X8_copyFrom_53 ds cs mp ds2 cs2 mp2 n2 tk2 av2 lo2 md2 y9).2.2.2.2.2.2.2.2.2.2.2.2.2 := by
  obtain ⟨y53_0, y53_1, y53_2, y53_3, y53_4, y53_5⟩ := y9
  rw [show (K_X8_copyFrom_53 ds cs mp ds2 cs2 mp2 n2 tk2 av2 lo2 md2 (y53_0, y53_1, y53_2, y53_3, y53_4, y53_5)) = ((va_cpy ds2 ds 0 0 6), (va_cpy cs2 cs 0 0 36), (va_cpy mp2 mp 0 0 36), y53_0, y53_1, y53_2, y53_3, n2, tk2, av2, lo2, md2, (0 + y53_4), (0 + y53_5)) from rfl]
  exact ⟨(show (0 + y53_4) ≤ ((va_cpy ds2 ds 0 0 6), (va_cpy cs2 cs 0 0 36), (va_cpy mp2 mp 0 0 36), y53_0, y53_1, y53_2, y53_3, n2, tk2, av2, lo2, md2, (0 + y53_4), (0 + y53_5)).2.2.2.2.2.2.2.2.2.2.2.2.1 from (show (0 + y53_4) ≤ (0 + y53_4) from (by omega))), (show (0 + y53_5) ≤ ((va_cpy ds2 ds 0 0 6), (va_cpy cs2 cs 0 0 36), (va_cpy mp2 mp 0 0 36), y53_0, y53_1, y53_2, y53_3, n2, tk2, av2, lo2, md2, (0 + y53_4), (0 + y53_5)).2.2.2.2.2.2.2.2.2.2.2.2.2 from (show (0 + y53_5) ≤ (0 + y53_5) from (by omega)))⟩
def F_X8_copyFrom (ds : Nat → Int32) (cs : Nat → Int32) (mp : Nat → Int32) (pk : Nat → Int32) (cap : Nat) (ds2 : Nat → Int32) (cs2 : Nat → Int32) (mp2 : Nat → Int32) (pk2 : Nat → Int32) (cn2 : Int32) (sn2 : Int32) (n2 : Int32) (tk2 : Int32) (av2 : Int32) (lo2 : Int32) (md2 : Int32) : (Nat → Int32) × (Nat → Int32) × (Nat → Int32) × Nat × (Nat → Int32) × Int32 × Int32 × Int32 × Int32 × Int32 × Int32 × Int32 × Nat × Nat := (K_X8_copyFrom_53 ds cs mp ds2 cs2 mp2 n2 tk2 av2 lo2 md2 (F_X5_takeOver pk cap pk2 cn2 sn2))
set_option maxHeartbeats 4000000 in
set_option maxRecDepth 100000 in
theorem c_X8_copyFrom (l : Launch) (hl0 : l.stackTraces = false) (D : va_G) (ad : Nat → Nat) (sz : Nat) (h_ds : Nat) (h_cs : Nat) (h_mp : Nat) (h_pk : Nat) (h_L : Nat) (h_S : Nat) (h_ds2 : Nat) (h_cs2 : Nat) (h_mp2 : Nat) (h_pk2 : Nat) (h_L2 : Nat) (h_S2 : Nat) (k_ds : ClassId) (k_cs : ClassId) (k_mp : ClassId) (k_pk : ClassId) (k_ds2 : ClassId) (k_cs2 : ClassId) (k_mp2 : ClassId) (k_pk2 : ClassId) (h_S_0 : Value) (h_S2_0 : Value) (ds : Nat → Int32) (cs : Nat → Int32) (mp : Nat → Int32) (cap : Nat) (pk : Nat → Int32) (cn : Int32) (sn : Int32) (n : Int32) (tk : Int32) (av : Int32) (lo : Int32) (md : Int32) (ds2 : Nat → Int32) (cs2 : Nat → Int32) (mp2 : Nat → Int32) (cap2 : Nat) (pk2 : Nat → Int32) (cn2 : Int32) (sn2 : Int32) (n2 : Int32) (tk2 : Int32) (av2 : Int32) (lo2 : Int32) (md2 : Int32) (hy0 : 0 ≤ cn.toInt) (hy1 : cn.toInt ≤ cap) (hy2 : cn.toInt ≤ 1000000) (hy3 : 64 ≤ cap) (hy4 : cap ≤ 2000000) (hy5 : 0 ≤ cn2.toInt) (hy6 : cn2.toInt ≤ cap2) (hy7 : cn2.toInt ≤ 1000000) (hy8 : 64 ≤ cap2) (hy9 : cap2 ≤ 2000000) : Met l yX8_copyFrom wsX8_copyFrom ({ frames := 2, cells := (F_X8_copyFrom ds cs mp pk cap ds2 cs2 mp2 pk2 cn2 sn2 n2 tk2 av2 lo2 md2).2.2.2.2.2.2.2.2.2.2.2.2.1, slots := (F_X8_copyFrom ds cs mp pk cap ds2 cs2 mp2 pk2 cn2 sn2 n2 tk2 av2 lo2 md2).2.2.2.2.2.2.2.2.2.2.2.2.2, locals := 83 }) (PC_ D ad [(h_ds, .inl (k_ds, 6, .inl ds)), (h_cs, .inl (k_cs, 36, .inl cs)), (h_mp, .inl (k_mp, 36, .inl mp)), (h_pk, .inl (k_pk, cap, .inl pk)), (h_L, .inr (8, [.ref h_pk, .int cn, .int sn])), (h_S, .inr (11, [h_S_0, .ref h_ds, .ref h_cs, .ref h_mp, .ref h_L, .int n, .int tk, .int av, .int lo, .int md])), (h_ds2, .inl (k_ds2, 6, .inl ds2)), (h_cs2, .inl (k_cs2, 36, .inl cs2)), (h_mp2, .inl (k_mp2, 36, .inl mp2)), (h_pk2, .inl (k_pk2, cap2, .inl pk2)), (h_L2, .inr (8, [.ref h_pk2, .int cn2, .int sn2])), (h_S2, .inr (11, [h_S2_0, .ref h_ds2, .ref h_cs2, .ref h_mp2, .ref h_L2, .int n2, .int tk2, .int av2, .int lo2, .int md2]))] [(k_ds, .int), (k_cs, .int), (k_mp, .int), (k_pk, .int), (k_ds2, .int), (k_cs2, .int), (k_mp2, .int), (k_pk2, .int)] sz [.ref h_S, .ref h_S2]) (QG_ D (fun q i => none) (fun q i => 0 ≤ ((F_X8_copyFrom ds cs mp pk cap ds2 cs2 mp2 pk2 cn2 sn2 n2 tk2 av2 lo2 md2).2.2.2.2.2.1).toInt ∧ ((F_X8_copyFrom ds cs mp pk cap ds2 cs2 mp2 pk2 cn2 sn2 n2 tk2 av2 lo2 md2).2.2.2.2.2.1).toInt ≤ ((F_X8_copyFrom ds cs mp pk cap ds2 cs2 mp2 pk2 cn2 sn2 n2 tk2 av2 lo2 md2).2.2.2.1) ∧ ((F_X8_copyFrom ds cs mp pk cap ds2 cs2 mp2 pk2 cn2 sn2 n2 tk2 av2 lo2 md2).2.2.2.2.2.1).toInt ≤ 1000000 ∧ 64 ≤ ((F_X8_copyFrom ds cs mp pk cap ds2 cs2 mp2 pk2 cn2 sn2 n2 tk2 av2 lo2 md2).2.2.2.1) ∧ ((F_X8_copyFrom ds cs mp pk cap ds2 cs2 mp2 pk2 cn2 sn2 n2 tk2 av2 lo2 md2).2.2.2.1) ≤ 2000000 ∧ ((F_X8_copyFrom ds cs mp pk cap ds2 cs2 mp2 pk2 cn2 sn2 n2 tk2 av2 lo2 md2).2.2.2.2.2.2.2.1).toInt = n2.toInt) (fun q k i => [(h_ds, .inl (k_ds, 6, .inl (F_X8_copyFrom ds cs mp pk cap ds2 cs2 mp2 pk2 cn2 sn2 n2 tk2 av2 lo2 md2).1)), (h_cs, .inl (k_cs, 36, .inl (F_X8_copyFrom ds cs mp pk cap ds2 cs2 mp2 pk2 cn2 sn2 n2 tk2 av2 lo2 md2).2.1)), (h_mp, .inl (k_mp, 36, .inl (F_X8_copyFrom ds cs mp pk cap ds2 cs2 mp2 pk2 cn2 sn2 n2 tk2 av2 lo2 md2).2.2.1)), ((q 0), .inl ((k 0), (F_X8_copyFrom ds cs mp pk cap ds2 cs2 mp2 pk2 cn2 sn2 n2 tk2 av2 lo2 md2).2.2.2.1, .inl (F_X8_copyFrom ds cs mp pk cap ds2 cs2 mp2 pk2 cn2 sn2 n2 tk2 av2 lo2 md2).2.2.2.2.1)), (h_L, .inr (8, [.ref (q 0), .int (F_X8_copyFrom ds cs mp pk cap ds2 cs2 mp2 pk2 cn2 sn2 n2 tk2 av2 lo2 md2).2.2.2.2.2.1, .int (F_X8_copyFrom ds cs mp pk cap ds2 cs2 mp2 pk2 cn2 sn2 n2 tk2 av2 lo2 md2).2.2.2.2.2.2.1])), (h_S, .inr (11, [h_S_0, .ref h_ds, .ref h_cs, .ref h_mp, .ref h_L, .int (F_X8_copyFrom ds cs mp pk cap ds2 cs2 mp2 pk2 cn2 sn2 n2 tk2 av2 lo2 md2).2.2.2.2.2.2.2.1, .int (F_X8_copyFrom ds cs mp pk cap ds2 cs2 mp2 pk2 cn2 sn2 n2 tk2 av2 lo2 md2).2.2.2.2.2.2.2.2.1, .int (F_X8_copyFrom ds cs mp pk cap ds2 cs2 mp2 pk2 cn2 sn2 n2 tk2 av2 lo2 md2).2.2.2.2.2.2.2.2.2.1, .int (F_X8_copyFrom ds cs mp pk cap ds2 cs2 mp2 pk2 cn2 sn2 n2 tk2 av2 lo2 md2).2.2.2.2.2.2.2.2.2.2.1, .int (F_X8_copyFrom ds cs mp pk cap ds2 cs2 mp2 pk2 cn2 sn2 n2 tk2 av2 lo2 md2).2.2.2.2.2.2.2.2.2.2.2.1])), (h_ds2, .inl (k_ds2, 6, .inl ds2)), (h_cs2, .inl (k_cs2, 36, .inl cs2)), (h_mp2, .inl (k_mp2, 36, .inl mp2)), (h_pk2, .inl (k_pk2, cap2, .inl pk2)), (h_L2, .inr (8, [.ref h_pk2, .int cn2, .int sn2])), (h_S2, .inr (11, [h_S2_0, .ref h_ds2, .ref h_cs2, .ref h_mp2, .ref h_L2, .int n2, .int tk2, .int av2, .int lo2, .int md2]))]) (fun q k i => [(k_ds, .int), (k_cs, .int), (k_mp, .int), ((k 0), .int), (k_ds2, .int), (k_cs2, .int), (k_mp2, .int), (k_pk2, .int)]) (va_A [(h_ds, .inl (k_ds, 6, .inl ds)), (h_cs, .inl (k_cs, 36, .inl cs)), (h_mp, .inl (k_mp, 36, .inl mp)), (h_pk, .inl (k_pk, cap, .inl pk)), (h_L, .inr (8, [.ref h_pk, .int cn, .int sn])), (h_S, .inr (11, [h_S_0, .ref h_ds, .ref h_cs, .ref h_mp, .ref h_L, .int n, .int tk, .int av, .int lo, .int md])), (h_ds2, .inl (k_ds2, 6, .inl ds2)), (h_cs2, .inl (k_cs2, 36, .inl cs2)), (h_mp2, .inl (k_mp2, 36, .inl mp2)), (h_pk2, .inl (k_pk2, cap2, .inl pk2)), (h_L2, .inr (8, [.ref h_pk2, .int cn2, .int sn2])), (h_S2, .inr (11, [h_S2_0, .ref h_ds2, .ref h_cs2, .ref h_mp2, .ref h_L2, .int n2, .int tk2, .int av2, .int lo2, .int md2]))] sz)) (F_X8_copyFrom ds cs mp pk cap ds2 cs2 mp2 pk2 cn2 sn2 n2 tk2 av2 lo2 md2).2.2.2.2.2.2.2.2.2.2.2.2.1 (F_X8_copyFrom ds cs mp pk cap ds2 cs2 mp2 pk2 cn2 sn2 n2 tk2 av2 lo2 md2).2.2.2.2.2.2.2.2.2.2.2.2.2 (va_A [(h_ds, .inl (k_ds, 6, .inl ds)), (h_cs, .inl (k_cs, 36, .inl cs)), (h_mp, .inl (k_mp, 36, .inl mp)), (h_pk, .inl (k_pk, cap, .inl pk)), (h_L, .inr (8, [.ref h_pk, .int cn, .int sn])), (h_S, .inr (11, [h_S_0, .ref h_ds, .ref h_cs, .ref h_mp, .ref h_L, .int n, .int tk, .int av, .int lo, .int md])), (h_ds2, .inl (k_ds2, 6, .inl ds2)), (h_cs2, .inl (k_cs2, 36, .inl cs2)), (h_mp2, .inl (k_mp2, 36, .inl mp2)), (h_pk2, .inl (k_pk2, cap2, .inl pk2)), (h_L2, .inr (8, [.ref h_pk2, .int cn2, .int sn2])), (h_S2, .inr (11, [h_S2_0, .ref h_ds2, .ref h_cs2, .ref h_mp2, .ref h_L2, .int n2, .int tk2, .int av2, .int lo2, .int md2]))] sz) := by
  refine Met.ofW (cc := cX8_copyFrom) (maxL := 2) (ret := none) (by decide) rfl ?_
  intro p e s m args below meth c s₁ B hml hv
  obtain ⟨rfl, hsz, hP, hK, hD0, hF⟩ := hv
  have hx := B.exec
  have hb := B.bytes
  have hr := B.returns
  have hts := atoms_spec (ws := wsX8_copyFrom) B.pre
  have hown : s.vm.findClass RX8 = some m.cls := findClass_of_methodNamed B.named
  have hlocks := B.notSynchronized
  subst hsz
  have hD := hD0.self (sz := s.heap.size)
  generalize hAe : va_A [(h_ds, .inl (k_ds, 6, .inl ds)), (h_cs, .inl (k_cs, 36, .inl cs)), (h_mp, .inl (k_mp, 36, .inl mp)), (h_pk, .inl (k_pk, cap, .inl pk)), (h_L, .inr (8, [.ref h_pk, .int cn, .int sn])), (h_S, .inr (11, [h_S_0, .ref h_ds, .ref h_cs, .ref h_mp, .ref h_L, .int n, .int tk, .int av, .int lo, .int md])), (h_ds2, .inl (k_ds2, 6, .inl ds2)), (h_cs2, .inl (k_cs2, 36, .inl cs2)), (h_mp2, .inl (k_mp2, 36, .inl mp2)), (h_pk2, .inl (k_pk2, cap2, .inl pk2)), (h_L2, .inr (8, [.ref h_pk2, .int cn2, .int sn2])), (h_S2, .inr (11, [h_S2_0, .ref h_ds2, .ref h_cs2, .ref h_mp2, .ref h_L2, .int n2, .int tk2, .int av2, .int lo2, .int md2]))] s.heap.size = A at hD hF ⊢
  have hA : ∀ q : Nat, s.heap.size ≤ q → A q := fun q h => by rw [← hAe]; exact Or.inr h
  obtain ⟨H, hHe⟩ : ∃ H : Heap, H = s.heap := ⟨_, rfl⟩
  have hS : va_S A s.heap H [] := by rw [hHe]; exact va_S.rf
  have hP : va_P D vwCl [(h_ds, .inl (k_ds, 6, .inl ds)), (h_cs, .inl (k_cs, 36, .inl cs)), (h_mp, .inl (k_mp, 36, .inl mp)), (h_pk, .inl (k_pk, cap, .inl pk)), (h_L, .inr (8, [.ref h_pk, .int cn, .int sn])), (h_S, .inr (11, [h_S_0, .ref h_ds, .ref h_cs, .ref h_mp, .ref h_L, .int n, .int tk, .int av, .int lo, .int md])), (h_ds2, .inl (k_ds2, 6, .inl ds2)), (h_cs2, .inl (k_cs2, 36, .inl cs2)), (h_mp2, .inl (k_mp2, 36, .inl mp2)), (h_pk2, .inl (k_pk2, cap2, .inl pk2)), (h_L2, .inr (8, [.ref h_pk2, .int cn2, .int sn2])), (h_S2, .inr (11, [h_S2_0, .ref h_ds2, .ref h_cs2, .ref h_mp2, .ref h_L2, .int n2, .int tk2, .int av2, .int lo2, .int md2]))] H := by rw [hHe]; exact hP
  rw [← hHe]
  have hi_X8 : ∀ w ∈ wsX80, w ∈ wsX8_copyFrom := by decide +kernel
  have hl := lv_entry [.ref h_S, .ref h_S2] (n := 2) (Nat.le_of_ble_eq_true rfl)
  rw [lg_entry_eq]
  generalize (lg_sl [.ref h_S, .ref h_S2] ++ List.replicate (2 - (lg_sl [.ref h_S, .ref h_S2]).length) Slot.unset).toArray = ls at hl ⊢
  have hl : lv_has ls 2 [(0, .ref h_S), (1, .ref h_S2)] := hl
  generalize hF9 : F_X8_copyFrom ds cs mp pk cap ds2 cs2 mp2 pk2 cn2 sn2 n2 tk2 av2 lo2 md2 = FF9
  have hM : FF9 = (K_X8_copyFrom_53 ds cs mp ds2 cs2 mp2 n2 tk2 av2 lo2 md2 (F_X5_takeOver pk cap pk2 cn2 sn2)) := hF9.symm
  refine lv_aload_n hx hb dX8_copyFrom_0 rfl (lv_at hl 1 rfl) ?_
  refine va_get (D := D) (ci := 11) (v := .ref h_ds2) (own := RX8) (C := RX8) (T := TX8) (N := 10) hx hb hts hi_X8 hown hK hP 11 rfl rfl 1 (by decide) (hts (.fieldLink RX8 9 "CanalMaps$Survey" "districts" "[I") (List.mem_of_getElem? (i := 1) (by decide +kernel))) (fun _ h9 => h9) rfl dX8_copyFrom_1 ?_
  refine lv_iconst (v := 0) hx hb dX8_copyFrom_4 (by decide) ?_
  refine lv_aload_n hx hb dX8_copyFrom_5 rfl (lv_at hl 0 rfl) ?_
  refine va_get (D := D) (ci := 11) (v := .ref h_ds) (own := RX8) (C := RX8) (T := TX8) (N := 10) hx hb hts hi_X8 hown hK hP 5 rfl rfl 1 (by decide) (hts (.fieldLink RX8 9 "CanalMaps$Survey" "districts" "[I") (List.mem_of_getElem? (i := 1) (by decide +kernel))) (fun _ h9 => h9) rfl dX8_copyFrom_6 ?_
  refine lv_iconst (v := 0) hx hb dX8_copyFrom_9 (by decide) ?_
  refine lv_bipush (v := 6) hx hb dX8_copyFrom_10 (by decide) ?_
  refine ka_copyi (g9 := (va_cpy ds2 ds 0 0 6)) (own := RX8) hx hb (by rw [hml]; exact hl.1.symm) hown (hts (.methodLink RX8 48 arraycopyName) (List.mem_of_getElem? (i := 2) (by decide +kernel))) (hts (.native arraycopyName) (List.mem_of_getElem? (i := 3) (by decide +kernel))) (hts (.static arraycopyName) (List.mem_of_getElem? (i := 4) (by decide +kernel))) (hts (.initialized "java/lang/System") (List.mem_of_getElem? (i := 5) (by decide +kernel))) hK hP hD hS 6 0 4 0 rfl rfl rfl rfl (ty := .int) rfl (nlt0 (by have z0 := hy0; have z1 := hy1; have z2 := hy2; have z3 := hy3; have z4 := hy4; have z5 := hy5; have z6 := hy6; have z7 := hy7; have z8 := hy8; have z9 := hy9; have l28 : (6 : Int32).toInt = 6 := (by decide +kernel); have l29 : (0 : Int32).toInt = 0 := (by decide +kernel); have l30 : (0 : Int32).toInt = 0 := (by decide +kernel); omega)) (nlt0 (by have z0 := hy0; have z1 := hy1; have z2 := hy2; have z3 := hy3; have z4 := hy4; have z5 := hy5; have z6 := hy6; have z7 := hy7; have z8 := hy8; have z9 := hy9; have l28 : (6 : Int32).toInt = 6 := (by decide +kernel); have l29 : (0 : Int32).toInt = 0 := (by decide +kernel); have l30 : (0 : Int32).toInt = 0 := (by decide +kernel); omega)) (nlt0 (by have z0 := hy0; have z1 := hy1; have z2 := hy2; have z3 := hy3; have z4 := hy4; have z5 := hy5; have z6 := hy6; have z7 := hy7; have z8 := hy8; have z9 := hy9; have l28 : (6 : Int32).toInt = 6 := (by decide +kernel); have l29 : (0 : Int32).toInt = 0 := (by decide +kernel); have l30 : (0 : Int32).toInt = 0 := (by decide +kernel); omega)) (cpb_ (by have z0 := hy0; have z1 := hy1; have z2 := hy2; have z3 := hy3; have z4 := hy4; have z5 := hy5; have z6 := hy6; have z7 := hy7; have z8 := hy8; have z9 := hy9; have l28 : (6 : Int32).toInt = 6 := (by decide +kernel); have l29 : (0 : Int32).toInt = 0 := (by decide +kernel); have l30 : (0 : Int32).toInt = 0 := (by decide +kernel); omega) (by have z0 := hy0; have z1 := hy1; have z2 := hy2; have z3 := hy3; have z4 := hy4; have z5 := hy5; have z6 := hy6; have z7 := hy7; have z8 := hy8; have z9 := hy9; have l28 : (6 : Int32).toInt = 6 := (by decide +kernel); have l29 : (0 : Int32).toInt = 0 := (by decide +kernel); have l30 : (0 : Int32).toInt = 0 := (by decide +kernel); omega) (by have z0 := hy0; have z1 := hy1; have z2 := hy2; have z3 := hy3; have z4 := hy4; have z5 := hy5; have z6 := hy6; have z7 := hy7; have z8 := hy8; have z9 := hy9; have l28 : (6 : Int32).toInt = 6 := (by decide +kernel); have l29 : (0 : Int32).toInt = 0 := (by decide +kernel); have l30 : (0 : Int32).toInt = 0 := (by decide +kernel); omega)) (cpb_ (by have z0 := hy0; have z1 := hy1; have z2 := hy2; have z3 := hy3; have z4 := hy4; have z5 := hy5; have z6 := hy6; have z7 := hy7; have z8 := hy8; have z9 := hy9; have l28 : (6 : Int32).toInt = 6 := (by decide +kernel); have l29 : (0 : Int32).toInt = 0 := (by decide +kernel); have l30 : (0 : Int32).toInt = 0 := (by decide +kernel); omega) (by have z0 := hy0; have z1 := hy1; have z2 := hy2; have z3 := hy3; have z4 := hy4; have z5 := hy5; have z6 := hy6; have z7 := hy7; have z8 := hy8; have z9 := hy9; have l28 : (6 : Int32).toInt = 6 := (by decide +kernel); have l29 : (0 : Int32).toInt = 0 := (by decide +kernel); have l30 : (0 : Int32).toInt = 0 := (by decide +kernel); omega) (by have z0 := hy0; have z1 := hy1; have z2 := hy2; have z3 := hy3; have z4 := hy4; have z5 := hy5; have z6 := hy6; have z7 := hy7; have z8 := hy8; have z9 := hy9; have l28 : (6 : Int32).toInt = 6 := (by decide +kernel); have l29 : (0 : Int32).toInt = 0 := (by decide +kernel); have l30 : (0 : Int32).toInt = 0 := (by decide +kernel); omega)) (fun _ _ => rfl) rfl (Nat.le_of_ble_eq_true rfl) (Nat.le_of_ble_eq_true rfl) dX8_copyFrom_12 (fun H locs hP hD hS => ?_)
  have hP : va_P D vwCl [(h_ds, .inl (k_ds, 6, .inl (va_cpy ds2 ds 0 0 6))), (h_cs, .inl (k_cs, 36, .inl cs)), (h_mp, .inl (k_mp, 36, .inl mp)), (h_pk, .inl (k_pk, cap, .inl pk)), (h_L, .inr (8, [.ref h_pk, .int cn, .int sn])), (h_S, .inr (11, [h_S_0, .ref h_ds, .ref h_cs, .ref h_mp, .ref h_L, .int n, .int tk, .int av, .int lo, .int md])), (h_ds2, .inl (k_ds2, 6, .inl ds2)), (h_cs2, .inl (k_cs2, 36, .inl cs2)), (h_mp2, .inl (k_mp2, 36, .inl mp2)), (h_pk2, .inl (k_pk2, cap2, .inl pk2)), (h_L2, .inr (8, [.ref h_pk2, .int cn2, .int sn2])), (h_S2, .inr (11, [h_S2_0, .ref h_ds2, .ref h_cs2, .ref h_mp2, .ref h_L2, .int n2, .int tk2, .int av2, .int lo2, .int md2]))] H := hP
  have hD : va_D A [(h_ds, .inl (k_ds, 6, .inl (va_cpy ds2 ds 0 0 6))), (h_cs, .inl (k_cs, 36, .inl cs)), (h_mp, .inl (k_mp, 36, .inl mp)), (h_pk, .inl (k_pk, cap, .inl pk)), (h_L, .inr (8, [.ref h_pk, .int cn, .int sn])), (h_S, .inr (11, [h_S_0, .ref h_ds, .ref h_cs, .ref h_mp, .ref h_L, .int n, .int tk, .int av, .int lo, .int md])), (h_ds2, .inl (k_ds2, 6, .inl ds2)), (h_cs2, .inl (k_cs2, 36, .inl cs2)), (h_mp2, .inl (k_mp2, 36, .inl mp2)), (h_pk2, .inl (k_pk2, cap2, .inl pk2)), (h_L2, .inr (8, [.ref h_pk2, .int cn2, .int sn2])), (h_S2, .inr (11, [h_S2_0, .ref h_ds2, .ref h_cs2, .ref h_mp2, .ref h_L2, .int n2, .int tk2, .int av2, .int lo2, .int md2]))] := hD
  refine lv_aload_n hx hb dX8_copyFrom_15 rfl (lv_at hl 1 rfl) ?_
  refine va_get (D := D) (ci := 11) (v := .ref h_cs2) (own := RX8) (C := RX8) (T := TX8) (N := 10) hx hb hts hi_X8 hown hK hP 11 rfl rfl 2 (by decide) (hts (.fieldLink RX8 15 "CanalMaps$Survey" "costs" "[I") (List.mem_of_getElem? (i := 6) (by decide +kernel))) (fun _ h9 => h9) rfl dX8_copyFrom_16 ?_
  refine lv_iconst (v := 0) hx hb dX8_copyFrom_19 (by decide) ?_
  refine lv_aload_n hx hb dX8_copyFrom_20 rfl (lv_at hl 0 rfl) ?_
  refine va_get (D := D) (ci := 11) (v := .ref h_cs) (own := RX8) (C := RX8) (T := TX8) (N := 10) hx hb hts hi_X8 hown hK hP 5 rfl rfl 2 (by decide) (hts (.fieldLink RX8 15 "CanalMaps$Survey" "costs" "[I") (List.mem_of_getElem? (i := 6) (by decide +kernel))) (fun _ h9 => h9) rfl dX8_copyFrom_21 ?_
  refine lv_iconst (v := 0) hx hb dX8_copyFrom_24 (by decide) ?_
  refine lv_bipush (v := 36) hx hb dX8_copyFrom_25 (by decide) ?_
  refine ka_copyi (g9 := (va_cpy cs2 cs 0 0 36)) (own := RX8) hx hb (by rw [hml]; exact hl.1.symm) hown (hts (.methodLink RX8 48 arraycopyName) (List.mem_of_getElem? (i := 2) (by decide +kernel))) (hts (.native arraycopyName) (List.mem_of_getElem? (i := 3) (by decide +kernel))) (hts (.static arraycopyName) (List.mem_of_getElem? (i := 4) (by decide +kernel))) (hts (.initialized "java/lang/System") (List.mem_of_getElem? (i := 5) (by decide +kernel))) hK hP hD hS 7 1 5 1 rfl rfl rfl rfl (ty := .int) rfl (nlt0 (by have z0 := hy0; have z1 := hy1; have z2 := hy2; have z3 := hy3; have z4 := hy4; have z5 := hy5; have z6 := hy6; have z7 := hy7; have z8 := hy8; have z9 := hy9; have l31 : (36 : Int32).toInt = 36 := (by decide +kernel); have l32 : (0 : Int32).toInt = 0 := (by decide +kernel); have l33 : (0 : Int32).toInt = 0 := (by decide +kernel); omega)) (nlt0 (by have z0 := hy0; have z1 := hy1; have z2 := hy2; have z3 := hy3; have z4 := hy4; have z5 := hy5; have z6 := hy6; have z7 := hy7; have z8 := hy8; have z9 := hy9; have l31 : (36 : Int32).toInt = 36 := (by decide +kernel); have l32 : (0 : Int32).toInt = 0 := (by decide +kernel); have l33 : (0 : Int32).toInt = 0 := (by decide +kernel); omega)) (nlt0 (by have z0 := hy0; have z1 := hy1; have z2 := hy2; have z3 := hy3; have z4 := hy4; have z5 := hy5; have z6 := hy6; have z7 := hy7; have z8 := hy8; have z9 := hy9; have l31 : (36 : Int32).toInt = 36 := (by decide +kernel); have l32 : (0 : Int32).toInt = 0 := (by decide +kernel); have l33 : (0 : Int32).toInt = 0 := (by decide +kernel); omega)) (cpb_ (by have z0 := hy0; have z1 := hy1; have z2 := hy2; have z3 := hy3; have z4 := hy4; have z5 := hy5; have z6 := hy6; have z7 := hy7; have z8 := hy8; have z9 := hy9; have l31 : (36 : Int32).toInt = 36 := (by decide +kernel); have l32 : (0 : Int32).toInt = 0 := (by decide +kernel); have l33 : (0 : Int32).toInt = 0 := (by decide +kernel); omega) (by have z0 := hy0; have z1 := hy1; have z2 := hy2; have z3 := hy3; have z4 := hy4; have z5 := hy5; have z6 := hy6; have z7 := hy7; have z8 := hy8; have z9 := hy9; have l31 : (36 : Int32).toInt = 36 := (by decide +kernel); have l32 : (0 : Int32).toInt = 0 := (by decide +kernel); have l33 : (0 : Int32).toInt = 0 := (by decide +kernel); omega) (by have z0 := hy0; have z1 := hy1; have z2 := hy2; have z3 := hy3; have z4 := hy4; have z5 := hy5; have z6 := hy6; have z7 := hy7; have z8 := hy8; have z9 := hy9; have l31 : (36 : Int32).toInt = 36 := (by decide +kernel); have l32 : (0 : Int32).toInt = 0 := (by decide +kernel); have l33 : (0 : Int32).toInt = 0 := (by decide +kernel); omega)) (cpb_ (by have z0 := hy0; have z1 := hy1; have z2 := hy2; have z3 := hy3; have z4 := hy4; have z5 := hy5; have z6 := hy6; have z7 := hy7; have z8 := hy8; have z9 := hy9; have l31 : (36 : Int32).toInt = 36 := (by decide +kernel); have l32 : (0 : Int32).toInt = 0 := (by decide +kernel); have l33 : (0 : Int32).toInt = 0 := (by decide +kernel); omega) (by have z0 := hy0; have z1 := hy1; have z2 := hy2; have z3 := hy3; have z4 := hy4; have z5 := hy5; have z6 := hy6; have z7 := hy7; have z8 := hy8; have z9 := hy9; have l31 : (36 : Int32).toInt = 36 := (by decide +kernel); have l32 : (0 : Int32).toInt = 0 := (by decide +kernel); have l33 : (0 : Int32).toInt = 0 := (by decide +kernel); omega) (by have z0 := hy0; have z1 := hy1; have z2 := hy2; have z3 := hy3; have z4 := hy4; have z5 := hy5; have z6 := hy6; have z7 := hy7; have z8 := hy8; have z9 := hy9; have l31 : (36 : Int32).toInt = 36 := (by decide +kernel); have l32 : (0 : Int32).toInt = 0 := (by decide +kernel); have l33 : (0 : Int32).toInt = 0 := (by decide +kernel); omega)) (fun _ _ => rfl) rfl (Nat.le_of_ble_eq_true rfl) (Nat.le_of_ble_eq_true rfl) dX8_copyFrom_27 (fun H locs hP hD hS => ?_)
  have hP : va_P D vwCl [(h_ds, .inl (k_ds, 6, .inl (va_cpy ds2 ds 0 0 6))), (h_cs, .inl (k_cs, 36, .inl (va_cpy cs2 cs 0 0 36))), (h_mp, .inl (k_mp, 36, .inl mp)), (h_pk, .inl (k_pk, cap, .inl pk)), (h_L, .inr (8, [.ref h_pk, .int cn, .int sn])), (h_S, .inr (11, [h_S_0, .ref h_ds, .ref h_cs, .ref h_mp, .ref h_L, .int n, .int tk, .int av, .int lo, .int md])), (h_ds2, .inl (k_ds2, 6, .inl ds2)), (h_cs2, .inl (k_cs2, 36, .inl cs2)), (h_mp2, .inl (k_mp2, 36, .inl mp2)), (h_pk2, .inl (k_pk2, cap2, .inl pk2)), (h_L2, .inr (8, [.ref h_pk2, .int cn2, .int sn2])), (h_S2, .inr (11, [h_S2_0, .ref h_ds2, .ref h_cs2, .ref h_mp2, .ref h_L2, .int n2, .int tk2, .int av2, .int lo2, .int md2]))] H := hP
  have hD : va_D A [(h_ds, .inl (k_ds, 6, .inl (va_cpy ds2 ds 0 0 6))), (h_cs, .inl (k_cs, 36, .inl (va_cpy cs2 cs 0 0 36))), (h_mp, .inl (k_mp, 36, .inl mp)), (h_pk, .inl (k_pk, cap, .inl pk)), (h_L, .inr (8, [.ref h_pk, .int cn, .int sn])), (h_S, .inr (11, [h_S_0, .ref h_ds, .ref h_cs, .ref h_mp, .ref h_L, .int n, .int tk, .int av, .int lo, .int md])), (h_ds2, .inl (k_ds2, 6, .inl ds2)), (h_cs2, .inl (k_cs2, 36, .inl cs2)), (h_mp2, .inl (k_mp2, 36, .inl mp2)), (h_pk2, .inl (k_pk2, cap2, .inl pk2)), (h_L2, .inr (8, [.ref h_pk2, .int cn2, .int sn2])), (h_S2, .inr (11, [h_S2_0, .ref h_ds2, .ref h_cs2, .ref h_mp2, .ref h_L2, .int n2, .int tk2, .int av2, .int lo2, .int md2]))] := hD
  refine lv_aload_n hx hb dX8_copyFrom_30 rfl (lv_at hl 1 rfl) ?_
  refine va_get (D := D) (ci := 11) (v := .ref h_mp2) (own := RX8) (C := RX8) (T := TX8) (N := 10) hx hb hts hi_X8 hown hK hP 11 rfl rfl 3 (by decide) (hts (.fieldLink RX8 18 "CanalMaps$Survey" "maps" "[I") (List.mem_of_getElem? (i := 7) (by decide +kernel))) (fun _ h9 => h9) rfl dX8_copyFrom_31 ?_
  refine lv_iconst (v := 0) hx hb dX8_copyFrom_34 (by decide) ?_
  refine lv_aload_n hx hb dX8_copyFrom_35 rfl (lv_at hl 0 rfl) ?_
  refine va_get (D := D) (ci := 11) (v := .ref h_mp) (own := RX8) (C := RX8) (T := TX8) (N := 10) hx hb hts hi_X8 hown hK hP 5 rfl rfl 3 (by decide) (hts (.fieldLink RX8 18 "CanalMaps$Survey" "maps" "[I") (List.mem_of_getElem? (i := 7) (by decide +kernel))) (fun _ h9 => h9) rfl dX8_copyFrom_36 ?_
  refine lv_iconst (v := 0) hx hb dX8_copyFrom_39 (by decide) ?_
  refine lv_bipush (v := 36) hx hb dX8_copyFrom_40 (by decide) ?_
  refine ka_copyi (g9 := (va_cpy mp2 mp 0 0 36)) (own := RX8) hx hb (by rw [hml]; exact hl.1.symm) hown (hts (.methodLink RX8 48 arraycopyName) (List.mem_of_getElem? (i := 2) (by decide +kernel))) (hts (.native arraycopyName) (List.mem_of_getElem? (i := 3) (by decide +kernel))) (hts (.static arraycopyName) (List.mem_of_getElem? (i := 4) (by decide +kernel))) (hts (.initialized "java/lang/System") (List.mem_of_getElem? (i := 5) (by decide +kernel))) hK hP hD hS 8 2 6 2 rfl rfl rfl rfl (ty := .int) rfl (nlt0 (by have z0 := hy0; have z1 := hy1; have z2 := hy2; have z3 := hy3; have z4 := hy4; have z5 := hy5; have z6 := hy6; have z7 := hy7; have z8 := hy8; have z9 := hy9; have l34 : (36 : Int32).toInt = 36 := (by decide +kernel); have l35 : (0 : Int32).toInt = 0 := (by decide +kernel); have l36 : (0 : Int32).toInt = 0 := (by decide +kernel); omega)) (nlt0 (by have z0 := hy0; have z1 := hy1; have z2 := hy2; have z3 := hy3; have z4 := hy4; have z5 := hy5; have z6 := hy6; have z7 := hy7; have z8 := hy8; have z9 := hy9; have l34 : (36 : Int32).toInt = 36 := (by decide +kernel); have l35 : (0 : Int32).toInt = 0 := (by decide +kernel); have l36 : (0 : Int32).toInt = 0 := (by decide +kernel); omega)) (nlt0 (by have z0 := hy0; have z1 := hy1; have z2 := hy2; have z3 := hy3; have z4 := hy4; have z5 := hy5; have z6 := hy6; have z7 := hy7; have z8 := hy8; have z9 := hy9; have l34 : (36 : Int32).toInt = 36 := (by decide +kernel); have l35 : (0 : Int32).toInt = 0 := (by decide +kernel); have l36 : (0 : Int32).toInt = 0 := (by decide +kernel); omega)) (cpb_ (by have z0 := hy0; have z1 := hy1; have z2 := hy2; have z3 := hy3; have z4 := hy4; have z5 := hy5; have z6 := hy6; have z7 := hy7; have z8 := hy8; have z9 := hy9; have l34 : (36 : Int32).toInt = 36 := (by decide +kernel); have l35 : (0 : Int32).toInt = 0 := (by decide +kernel); have l36 : (0 : Int32).toInt = 0 := (by decide +kernel); omega) (by have z0 := hy0; have z1 := hy1; have z2 := hy2; have z3 := hy3; have z4 := hy4; have z5 := hy5; have z6 := hy6; have z7 := hy7; have z8 := hy8; have z9 := hy9; have l34 : (36 : Int32).toInt = 36 := (by decide +kernel); have l35 : (0 : Int32).toInt = 0 := (by decide +kernel); have l36 : (0 : Int32).toInt = 0 := (by decide +kernel); omega) (by have z0 := hy0; have z1 := hy1; have z2 := hy2; have z3 := hy3; have z4 := hy4; have z5 := hy5; have z6 := hy6; have z7 := hy7; have z8 := hy8; have z9 := hy9; have l34 : (36 : Int32).toInt = 36 := (by decide +kernel); have l35 : (0 : Int32).toInt = 0 := (by decide +kernel); have l36 : (0 : Int32).toInt = 0 := (by decide +kernel); omega)) (cpb_ (by have z0 := hy0; have z1 := hy1; have z2 := hy2; have z3 := hy3; have z4 := hy4; have z5 := hy5; have z6 := hy6; have z7 := hy7; have z8 := hy8; have z9 := hy9; have l34 : (36 : Int32).toInt = 36 := (by decide +kernel); have l35 : (0 : Int32).toInt = 0 := (by decide +kernel); have l36 : (0 : Int32).toInt = 0 := (by decide +kernel); omega) (by have z0 := hy0; have z1 := hy1; have z2 := hy2; have z3 := hy3; have z4 := hy4; have z5 := hy5; have z6 := hy6; have z7 := hy7; have z8 := hy8; have z9 := hy9; have l34 : (36 : Int32).toInt = 36 := (by decide +kernel); have l35 : (0 : Int32).toInt = 0 := (by decide +kernel); have l36 : (0 : Int32).toInt = 0 := (by decide +kernel); omega) (by have z0 := hy0; have z1 := hy1; have z2 := hy2; have z3 := hy3; have z4 := hy4; have z5 := hy5; have z6 := hy6; have z7 := hy7; have z8 := hy8; have z9 := hy9; have l34 : (36 : Int32).toInt = 36 := (by decide +kernel); have l35 : (0 : Int32).toInt = 0 := (by decide +kernel); have l36 : (0 : Int32).toInt = 0 := (by decide +kernel); omega)) (fun _ _ => rfl) rfl (Nat.le_of_ble_eq_true rfl) (Nat.le_of_ble_eq_true rfl) dX8_copyFrom_42 (fun H locs hP hD hS => ?_)
  have hP : va_P D vwCl [(h_ds, .inl (k_ds, 6, .inl (va_cpy ds2 ds 0 0 6))), (h_cs, .inl (k_cs, 36, .inl (va_cpy cs2 cs 0 0 36))), (h_mp, .inl (k_mp, 36, .inl (va_cpy mp2 mp 0 0 36))), (h_pk, .inl (k_pk, cap, .inl pk)), (h_L, .inr (8, [.ref h_pk, .int cn, .int sn])), (h_S, .inr (11, [h_S_0, .ref h_ds, .ref h_cs, .ref h_mp, .ref h_L, .int n, .int tk, .int av, .int lo, .int md])), (h_ds2, .inl (k_ds2, 6, .inl ds2)), (h_cs2, .inl (k_cs2, 36, .inl cs2)), (h_mp2, .inl (k_mp2, 36, .inl mp2)), (h_pk2, .inl (k_pk2, cap2, .inl pk2)), (h_L2, .inr (8, [.ref h_pk2, .int cn2, .int sn2])), (h_S2, .inr (11, [h_S2_0, .ref h_ds2, .ref h_cs2, .ref h_mp2, .ref h_L2, .int n2, .int tk2, .int av2, .int lo2, .int md2]))] H := hP
  have hD : va_D A [(h_ds, .inl (k_ds, 6, .inl (va_cpy ds2 ds 0 0 6))), (h_cs, .inl (k_cs, 36, .inl (va_cpy cs2 cs 0 0 36))), (h_mp, .inl (k_mp, 36, .inl (va_cpy mp2 mp 0 0 36))), (h_pk, .inl (k_pk, cap, .inl pk)), (h_L, .inr (8, [.ref h_pk, .int cn, .int sn])), (h_S, .inr (11, [h_S_0, .ref h_ds, .ref h_cs, .ref h_mp, .ref h_L, .int n, .int tk, .int av, .int lo, .int md])), (h_ds2, .inl (k_ds2, 6, .inl ds2)), (h_cs2, .inl (k_cs2, 36, .inl cs2)), (h_mp2, .inl (k_mp2, 36, .inl mp2)), (h_pk2, .inl (k_pk2, cap2, .inl pk2)), (h_L2, .inr (8, [.ref h_pk2, .int cn2, .int sn2])), (h_S2, .inr (11, [h_S2_0, .ref h_ds2, .ref h_cs2, .ref h_mp2, .ref h_L2, .int n2, .int tk2, .int av2, .int lo2, .int md2]))] := hD
  refine lv_aload_n hx hb dX8_copyFrom_45 rfl (lv_at hl 0 rfl) ?_
  refine va_get (D := D) (ci := 11) (v := .ref h_L) (own := RX8) (C := RX8) (T := TX8) (N := 10) hx hb hts hi_X8 hown hK hP 5 rfl rfl 4 (by decide) (hts (.fieldLink RX8 24 "CanalMaps$Survey" "letters" "LCanalMaps$Letters;") (List.mem_of_getElem? (i := 8) (by decide +kernel))) (fun _ h9 => h9) rfl dX8_copyFrom_46 ?_
  refine lv_aload_n hx hb dX8_copyFrom_49 rfl (lv_at hl 1 rfl) ?_
  refine va_get (D := D) (ci := 11) (v := .ref h_L2) (own := RX8) (C := RX8) (T := TX8) (N := 10) hx hb hts hi_X8 hown hK hP 11 rfl rfl 4 (by decide) (hts (.fieldLink RX8 24 "CanalMaps$Survey" "letters" "LCanalMaps$Letters;") (List.mem_of_getElem? (i := 8) (by decide +kernel))) (fun _ h9 => h9) rfl dX8_copyFrom_50 ?_
  have hcon := (c_X5_takeOver l hl0 D ad H.size h_pk h_L h_pk2 h_L2 k_pk k_pk2 cap pk cn sn cap2 pk2 cn2 sn2 (by have z0 := hy0; have z1 := hy1; have z2 := hy2; have z3 := hy3; have z4 := hy4; have z5 := hy5; have z6 := hy6; have z7 := hy7; have z8 := hy8; have z9 := hy9; omega) (by have z0 := hy0; have z1 := hy1; have z2 := hy2; have z3 := hy3; have z4 := hy4; have z5 := hy5; have z6 := hy6; have z7 := hy7; have z8 := hy8; have z9 := hy9; omega) (by have z0 := hy0; have z1 := hy1; have z2 := hy2; have z3 := hy3; have z4 := hy4; have z5 := hy5; have z6 := hy6; have z7 := hy7; have z8 := hy8; have z9 := hy9; omega) (by have z0 := hy0; have z1 := hy1; have z2 := hy2; have z3 := hy3; have z4 := hy4; have z5 := hy5; have z6 := hy6; have z7 := hy7; have z8 := hy8; have z9 := hy9; omega) (by have z0 := hy0; have z1 := hy1; have z2 := hy2; have z3 := hy3; have z4 := hy4; have z5 := hy5; have z6 := hy6; have z7 := hy7; have z8 := hy8; have z9 := hy9; omega) (by have z0 := hy0; have z1 := hy1; have z2 := hy2; have z3 := hy3; have z4 := hy4; have z5 := hy5; have z6 := hy6; have z7 := hy7; have z8 := hy8; have z9 := hy9; omega) (by have z0 := hy0; have z1 := hy1; have z2 := hy2; have z3 := hy3; have z4 := hy4; have z5 := hy5; have z6 := hy6; have z7 := hy7; have z8 := hy8; have z9 := hy9; omega) (by have z0 := hy0; have z1 := hy1; have z2 := hy2; have z3 := hy3; have z4 := hy4; have z5 := hy5; have z6 := hy6; have z7 := hy7; have z8 := hy8; have z9 := hy9; omega) (by have z0 := hy0; have z1 := hy1; have z2 := hy2; have z3 := hy3; have z4 := hy4; have z5 := hy5; have z6 := hy6; have z7 := hy7; have z8 := hy8; have z9 := hy9; omega) (by have z0 := hy0; have z1 := hy1; have z2 := hy2; have z3 := hy3; have z4 := hy4; have z5 := hy5; have z6 := hy6; have z7 := hy7; have z8 := hy8; have z9 := hy9; omega))
  generalize hy_1 : (F_X5_takeOver pk cap pk2 cn2 sn2) = y9 at hcon hM
  obtain ⟨y53_0, y53_1, y53_2, y53_3, y53_4, y53_5⟩ := y9
  refine kc_ (wc := [(h_pk, .inl (k_pk, cap, .inl pk)), (h_L, .inr (8, [.ref h_pk, .int cn, .int sn])), (h_pk2, .inl (k_pk2, cap2, .inl pk2)), (h_L2, .inr (8, [.ref h_pk2, .int cn2, .int sn2]))]) (wr := [(h_ds, .inl (k_ds, 6, .inl (va_cpy ds2 ds 0 0 6))), (h_cs, .inl (k_cs, 36, .inl (va_cpy cs2 cs 0 0 36))), (h_mp, .inl (k_mp, 36, .inl (va_cpy mp2 mp 0 0 36))), (h_S, .inr (11, [h_S_0, .ref h_ds, .ref h_cs, .ref h_mp, .ref h_L, .int n, .int tk, .int av, .int lo, .int md])), (h_ds2, .inl (k_ds2, 6, .inl ds2)), (h_cs2, .inl (k_cs2, 36, .inl cs2)), (h_mp2, .inl (k_mp2, 36, .inl mp2)), (h_S2, .inr (11, [h_S2_0, .ref h_ds2, .ref h_cs2, .ref h_mp2, .ref h_L2, .int n2, .int tk2, .int av2, .int lo2, .int md2]))]) (va_runV (As := [.ref h_L2]) (rest := []) ⟨hx, hb, hml, hown, hts⟩ hcon (cwV 1 hts gX8_copyFrom_X5_takeOver rfl rfl rfl (by decide +kernel) ⟨Nat.le_of_ble_eq_true rfl, Nat.le_of_ble_eq_true rfl⟩) ⟨PC_.blind, va_recv hK hP (ci := 8) (q0 := 4) rfl rfl, PC_.pre hF hK hP hD hS hA [3, 4, 9, 10] [3, 7] rfl (by decide) rfl⟩ rfl rfl hl.1 rfl (lv_room (Nat.le_of_ble_eq_true rfl)) dX8_copyFrom_53 ⟨(show 0 + ((y53_0, y53_1, y53_2, y53_3, y53_4, y53_5).2.2.2.2.1) ≤ (FF9).2.2.2.2.2.2.2.2.2.2.2.2.1 from (by rw [hM]; exact Nat.le_trans (show 0 + ((y53_0, y53_1, y53_2, y53_3, y53_4, y53_5).2.2.2.2.1) ≤ (0 + (y53_0, y53_1, y53_2, y53_3, y53_4, y53_5).2.2.2.2.1) from (by omega)) (Nat.le_trans (show (0 + (y53_0, y53_1, y53_2, y53_3, y53_4, y53_5).2.2.2.2.1) ≤ (0 + (y53_0, y53_1, y53_2, y53_3, y53_4, y53_5).2.2.2.2.1) from (by omega)) (CK_X8_copyFrom_53 ds cs mp ds2 cs2 mp2 n2 tk2 av2 lo2 md2 (y53_0, y53_1, y53_2, y53_3, y53_4, y53_5)).1))), (show 0 + ((y53_0, y53_1, y53_2, y53_3, y53_4, y53_5).2.2.2.2.2) ≤ (FF9).2.2.2.2.2.2.2.2.2.2.2.2.2 from (by rw [hM]; exact Nat.le_trans (show 0 + ((y53_0, y53_1, y53_2, y53_3, y53_4, y53_5).2.2.2.2.2) ≤ (0 + (y53_0, y53_1, y53_2, y53_3, y53_4, y53_5).2.2.2.2.2) from (by omega)) (Nat.le_trans (show (0 + (y53_0, y53_1, y53_2, y53_3, y53_4, y53_5).2.2.2.2.2) ≤ (0 + (y53_0, y53_1, y53_2, y53_3, y53_4, y53_5).2.2.2.2.2) from (by omega)) (CK_X8_copyFrom_53 ds cs mp ds2 cs2 mp2 n2 tk2 av2 lo2 md2 (y53_0, y53_1, y53_2, y53_3, y53_4, y53_5)).2)))⟩) hK hP hD hS hA [3, 4, 9, 10] [0, 1, 2, 5, 6, 7, 8, 11] [0, 1, 2, 4, 5, 6] rfl rfl (by decide) (by decide) rfl (fun qa_1 ka_1 ia H locs hpo hP hD hK hS => ?_)
  have hM : FF9 = ((va_cpy ds2 ds 0 0 6), (va_cpy cs2 cs 0 0 36), (va_cpy mp2 mp 0 0 36), y53_0, y53_1, y53_2, y53_3, n2, tk2, av2, lo2, md2, (0 + y53_4), (0 + y53_5)) := hM
  have hen_1 : 0 ≤ y53_2.toInt ∧ y53_2.toInt ≤ y53_0 ∧ y53_2.toInt ≤ 1000000 ∧ 64 ≤ y53_0 ∧ y53_0 ≤ 2000000 := hpo
  have hP : va_P D vwCl [(h_ds, .inl (k_ds, 6, .inl (va_cpy ds2 ds 0 0 6))), (h_cs, .inl (k_cs, 36, .inl (va_cpy cs2 cs 0 0 36))), (h_mp, .inl (k_mp, 36, .inl (va_cpy mp2 mp 0 0 36))), (h_S, .inr (11, [h_S_0, .ref h_ds, .ref h_cs, .ref h_mp, .ref h_L, .int n, .int tk, .int av, .int lo, .int md])), (h_ds2, .inl (k_ds2, 6, .inl ds2)), (h_cs2, .inl (k_cs2, 36, .inl cs2)), (h_mp2, .inl (k_mp2, 36, .inl mp2)), (h_S2, .inr (11, [h_S2_0, .ref h_ds2, .ref h_cs2, .ref h_mp2, .ref h_L2, .int n2, .int tk2, .int av2, .int lo2, .int md2])), ((qa_1 0), .inl ((ka_1 0), y53_0, .inl y53_1)), (h_L, .inr (8, [.ref (qa_1 0), .int y53_2, .int y53_3])), (h_pk2, .inl (k_pk2, cap2, .inl pk2)), (h_L2, .inr (8, [.ref h_pk2, .int cn2, .int sn2]))] H := hP
  have hD : va_D A [(h_ds, .inl (k_ds, 6, .inl (va_cpy ds2 ds 0 0 6))), (h_cs, .inl (k_cs, 36, .inl (va_cpy cs2 cs 0 0 36))), (h_mp, .inl (k_mp, 36, .inl (va_cpy mp2 mp 0 0 36))), (h_S, .inr (11, [h_S_0, .ref h_ds, .ref h_cs, .ref h_mp, .ref h_L, .int n, .int tk, .int av, .int lo, .int md])), (h_ds2, .inl (k_ds2, 6, .inl ds2)), (h_cs2, .inl (k_cs2, 36, .inl cs2)), (h_mp2, .inl (k_mp2, 36, .inl mp2)), (h_S2, .inr (11, [h_S2_0, .ref h_ds2, .ref h_cs2, .ref h_mp2, .ref h_L2, .int n2, .int tk2, .int av2, .int lo2, .int md2])), ((qa_1 0), .inl ((ka_1 0), y53_0, .inl y53_1)), (h_L, .inr (8, [.ref (qa_1 0), .int y53_2, .int y53_3])), (h_pk2, .inl (k_pk2, cap2, .inl pk2)), (h_L2, .inr (8, [.ref h_pk2, .int cn2, .int sn2]))] := hD
  have hK : va_K D vwCl [(k_ds, .int), (k_cs, .int), (k_mp, .int), (k_ds2, .int), (k_cs2, .int), (k_mp2, .int), ((ka_1 0), .int), (k_pk2, .int)] s := hK
  refine W.eq (g2 := F0 m 56 ls []) rfl ?_
  refine lv_aload_n hx hb dX8_copyFrom_56 rfl (lv_at hl 0 rfl) ?_
  refine lv_aload_n hx hb dX8_copyFrom_57 rfl (lv_at hl 1 rfl) ?_
  refine va_get (D := D) (ci := 11) (v := .int n2) (own := RX8) (C := RX8) (T := TX8) (N := 10) hx hb hts hi_X8 hown hK hP 7 rfl rfl 5 (by decide) (hts (.fieldLink RX8 28 "CanalMaps$Survey" "surveyors" "I") (List.mem_of_getElem? (i := 9) (by decide +kernel))) (fun _ h9 => h9) rfl dX8_copyFrom_58 ?_
  refine va_put (D := D) (ci := 11) (v := .int n2) (ty := .int) (own := RX8) (C := RX8) (T := TX8) (N := 10) hx hb hts hi_X8 tyX8 tyX8_ok nmX8 hown hK hP hD hS 3 rfl rfl 5 (by decide) (hts (.fieldLink RX8 28 "CanalMaps$Survey" "surveyors" "I") (List.mem_of_getElem? (i := 9) (by decide +kernel))) (fun _ h9 => h9) rfl (by decide +kernel) rfl rfl (Nat.le_of_ble_eq_true rfl) dX8_copyFrom_61 (fun H locs hP hD hS => ?_)
  have hP : va_P D vwCl [(h_ds, .inl (k_ds, 6, .inl (va_cpy ds2 ds 0 0 6))), (h_cs, .inl (k_cs, 36, .inl (va_cpy cs2 cs 0 0 36))), (h_mp, .inl (k_mp, 36, .inl (va_cpy mp2 mp 0 0 36))), (h_S, .inr (11, [h_S_0, .ref h_ds, .ref h_cs, .ref h_mp, .ref h_L, .int n2, .int tk, .int av, .int lo, .int md])), (h_ds2, .inl (k_ds2, 6, .inl ds2)), (h_cs2, .inl (k_cs2, 36, .inl cs2)), (h_mp2, .inl (k_mp2, 36, .inl mp2)), (h_S2, .inr (11, [h_S2_0, .ref h_ds2, .ref h_cs2, .ref h_mp2, .ref h_L2, .int n2, .int tk2, .int av2, .int lo2, .int md2])), ((qa_1 0), .inl ((ka_1 0), y53_0, .inl y53_1)), (h_L, .inr (8, [.ref (qa_1 0), .int y53_2, .int y53_3])), (h_pk2, .inl (k_pk2, cap2, .inl pk2)), (h_L2, .inr (8, [.ref h_pk2, .int cn2, .int sn2]))] H := hP
  have hD : va_D A [(h_ds, .inl (k_ds, 6, .inl (va_cpy ds2 ds 0 0 6))), (h_cs, .inl (k_cs, 36, .inl (va_cpy cs2 cs 0 0 36))), (h_mp, .inl (k_mp, 36, .inl (va_cpy mp2 mp 0 0 36))), (h_S, .inr (11, [h_S_0, .ref h_ds, .ref h_cs, .ref h_mp, .ref h_L, .int n2, .int tk, .int av, .int lo, .int md])), (h_ds2, .inl (k_ds2, 6, .inl ds2)), (h_cs2, .inl (k_cs2, 36, .inl cs2)), (h_mp2, .inl (k_mp2, 36, .inl mp2)), (h_S2, .inr (11, [h_S2_0, .ref h_ds2, .ref h_cs2, .ref h_mp2, .ref h_L2, .int n2, .int tk2, .int av2, .int lo2, .int md2])), ((qa_1 0), .inl ((ka_1 0), y53_0, .inl y53_1)), (h_L, .inr (8, [.ref (qa_1 0), .int y53_2, .int y53_3])), (h_pk2, .inl (k_pk2, cap2, .inl pk2)), (h_L2, .inr (8, [.ref h_pk2, .int cn2, .int sn2]))] := hD
  refine lv_aload_n hx hb dX8_copyFrom_64 rfl (lv_at hl 0 rfl) ?_
  refine lv_aload_n hx hb dX8_copyFrom_65 rfl (lv_at hl 1 rfl) ?_
  refine va_get (D := D) (ci := 11) (v := .int tk2) (own := RX8) (C := RX8) (T := TX8) (N := 10) hx hb hts hi_X8 hown hK hP 7 rfl rfl 6 (by decide) (hts (.fieldLink RX8 32 "CanalMaps$Survey" "ticks" "I") (List.mem_of_getElem? (i := 10) (by decide +kernel))) (fun _ h9 => h9) rfl dX8_copyFrom_66 ?_
  refine va_put (D := D) (ci := 11) (v := .int tk2) (ty := .int) (own := RX8) (C := RX8) (T := TX8) (N := 10) hx hb hts hi_X8 tyX8 tyX8_ok nmX8 hown hK hP hD hS 3 rfl rfl 6 (by decide) (hts (.fieldLink RX8 32 "CanalMaps$Survey" "ticks" "I") (List.mem_of_getElem? (i := 10) (by decide +kernel))) (fun _ h9 => h9) rfl (by decide +kernel) rfl rfl (Nat.le_of_ble_eq_true rfl) dX8_copyFrom_69 (fun H locs hP hD hS => ?_)
  have hP : va_P D vwCl [(h_ds, .inl (k_ds, 6, .inl (va_cpy ds2 ds 0 0 6))), (h_cs, .inl (k_cs, 36, .inl (va_cpy cs2 cs 0 0 36))), (h_mp, .inl (k_mp, 36, .inl (va_cpy mp2 mp 0 0 36))), (h_S, .inr (11, [h_S_0, .ref h_ds, .ref h_cs, .ref h_mp, .ref h_L, .int n2, .int tk2, .int av, .int lo, .int md])), (h_ds2, .inl (k_ds2, 6, .inl ds2)), (h_cs2, .inl (k_cs2, 36, .inl cs2)), (h_mp2, .inl (k_mp2, 36, .inl mp2)), (h_S2, .inr (11, [h_S2_0, .ref h_ds2, .ref h_cs2, .ref h_mp2, .ref h_L2, .int n2, .int tk2, .int av2, .int lo2, .int md2])), ((qa_1 0), .inl ((ka_1 0), y53_0, .inl y53_1)), (h_L, .inr (8, [.ref (qa_1 0), .int y53_2, .int y53_3])), (h_pk2, .inl (k_pk2, cap2, .inl pk2)), (h_L2, .inr (8, [.ref h_pk2, .int cn2, .int sn2]))] H := hP
  have hD : va_D A [(h_ds, .inl (k_ds, 6, .inl (va_cpy ds2 ds 0 0 6))), (h_cs, .inl (k_cs, 36, .inl (va_cpy cs2 cs 0 0 36))), (h_mp, .inl (k_mp, 36, .inl (va_cpy mp2 mp 0 0 36))), (h_S, .inr (11, [h_S_0, .ref h_ds, .ref h_cs, .ref h_mp, .ref h_L, .int n2, .int tk2, .int av, .int lo, .int md])), (h_ds2, .inl (k_ds2, 6, .inl ds2)), (h_cs2, .inl (k_cs2, 36, .inl cs2)), (h_mp2, .inl (k_mp2, 36, .inl mp2)), (h_S2, .inr (11, [h_S2_0, .ref h_ds2, .ref h_cs2, .ref h_mp2, .ref h_L2, .int n2, .int tk2, .int av2, .int lo2, .int md2])), ((qa_1 0), .inl ((ka_1 0), y53_0, .inl y53_1)), (h_L, .inr (8, [.ref (qa_1 0), .int y53_2, .int y53_3])), (h_pk2, .inl (k_pk2, cap2, .inl pk2)), (h_L2, .inr (8, [.ref h_pk2, .int cn2, .int sn2]))] := hD
  refine lv_aload_n hx hb dX8_copyFrom_72 rfl (lv_at hl 0 rfl) ?_
  refine lv_aload_n hx hb dX8_copyFrom_73 rfl (lv_at hl 1 rfl) ?_
  refine va_get (D := D) (ci := 11) (v := .int av2) (own := RX8) (C := RX8) (T := TX8) (N := 10) hx hb hts hi_X8 hown hK hP 7 rfl rfl 7 (by decide) (hts (.fieldLink RX8 35 "CanalMaps$Survey" "arrived" "I") (List.mem_of_getElem? (i := 11) (by decide +kernel))) (fun _ h9 => h9) rfl dX8_copyFrom_74 ?_
  refine va_put (D := D) (ci := 11) (v := .int av2) (ty := .int) (own := RX8) (C := RX8) (T := TX8) (N := 10) hx hb hts hi_X8 tyX8 tyX8_ok nmX8 hown hK hP hD hS 3 rfl rfl 7 (by decide) (hts (.fieldLink RX8 35 "CanalMaps$Survey" "arrived" "I") (List.mem_of_getElem? (i := 11) (by decide +kernel))) (fun _ h9 => h9) rfl (by decide +kernel) rfl rfl (Nat.le_of_ble_eq_true rfl) dX8_copyFrom_77 (fun H locs hP hD hS => ?_)
  have hP : va_P D vwCl [(h_ds, .inl (k_ds, 6, .inl (va_cpy ds2 ds 0 0 6))), (h_cs, .inl (k_cs, 36, .inl (va_cpy cs2 cs 0 0 36))), (h_mp, .inl (k_mp, 36, .inl (va_cpy mp2 mp 0 0 36))), (h_S, .inr (11, [h_S_0, .ref h_ds, .ref h_cs, .ref h_mp, .ref h_L, .int n2, .int tk2, .int av2, .int lo, .int md])), (h_ds2, .inl (k_ds2, 6, .inl ds2)), (h_cs2, .inl (k_cs2, 36, .inl cs2)), (h_mp2, .inl (k_mp2, 36, .inl mp2)), (h_S2, .inr (11, [h_S2_0, .ref h_ds2, .ref h_cs2, .ref h_mp2, .ref h_L2, .int n2, .int tk2, .int av2, .int lo2, .int md2])), ((qa_1 0), .inl ((ka_1 0), y53_0, .inl y53_1)), (h_L, .inr (8, [.ref (qa_1 0), .int y53_2, .int y53_3])), (h_pk2, .inl (k_pk2, cap2, .inl pk2)), (h_L2, .inr (8, [.ref h_pk2, .int cn2, .int sn2]))] H := hP
  have hD : va_D A [(h_ds, .inl (k_ds, 6, .inl (va_cpy ds2 ds 0 0 6))), (h_cs, .inl (k_cs, 36, .inl (va_cpy cs2 cs 0 0 36))), (h_mp, .inl (k_mp, 36, .inl (va_cpy mp2 mp 0 0 36))), (h_S, .inr (11, [h_S_0, .ref h_ds, .ref h_cs, .ref h_mp, .ref h_L, .int n2, .int tk2, .int av2, .int lo, .int md])), (h_ds2, .inl (k_ds2, 6, .inl ds2)), (h_cs2, .inl (k_cs2, 36, .inl cs2)), (h_mp2, .inl (k_mp2, 36, .inl mp2)), (h_S2, .inr (11, [h_S2_0, .ref h_ds2, .ref h_cs2, .ref h_mp2, .ref h_L2, .int n2, .int tk2, .int av2, .int lo2, .int md2])), ((qa_1 0), .inl ((ka_1 0), y53_0, .inl y53_1)), (h_L, .inr (8, [.ref (qa_1 0), .int y53_2, .int y53_3])), (h_pk2, .inl (k_pk2, cap2, .inl pk2)), (h_L2, .inr (8, [.ref h_pk2, .int cn2, .int sn2]))] := hD
  refine lv_aload_n hx hb dX8_copyFrom_80 rfl (lv_at hl 0 rfl) ?_
  refine lv_aload_n hx hb dX8_copyFrom_81 rfl (lv_at hl 1 rfl) ?_
  refine va_get (D := D) (ci := 11) (v := .int lo2) (own := RX8) (C := RX8) (T := TX8) (N := 10) hx hb hts hi_X8 hown hK hP 7 rfl rfl 8 (by decide) (hts (.fieldLink RX8 38 "CanalMaps$Survey" "lost" "I") (List.mem_of_getElem? (i := 12) (by decide +kernel))) (fun _ h9 => h9) rfl dX8_copyFrom_82 ?_
  refine va_put (D := D) (ci := 11) (v := .int lo2) (ty := .int) (own := RX8) (C := RX8) (T := TX8) (N := 10) hx hb hts hi_X8 tyX8 tyX8_ok nmX8 hown hK hP hD hS 3 rfl rfl 8 (by decide) (hts (.fieldLink RX8 38 "CanalMaps$Survey" "lost" "I") (List.mem_of_getElem? (i := 12) (by decide +kernel))) (fun _ h9 => h9) rfl (by decide +kernel) rfl rfl (Nat.le_of_ble_eq_true rfl) dX8_copyFrom_85 (fun H locs hP hD hS => ?_)
  have hP : va_P D vwCl [(h_ds, .inl (k_ds, 6, .inl (va_cpy ds2 ds 0 0 6))), (h_cs, .inl (k_cs, 36, .inl (va_cpy cs2 cs 0 0 36))), (h_mp, .inl (k_mp, 36, .inl (va_cpy mp2 mp 0 0 36))), (h_S, .inr (11, [h_S_0, .ref h_ds, .ref h_cs, .ref h_mp, .ref h_L, .int n2, .int tk2, .int av2, .int lo2, .int md])), (h_ds2, .inl (k_ds2, 6, .inl ds2)), (h_cs2, .inl (k_cs2, 36, .inl cs2)), (h_mp2, .inl (k_mp2, 36, .inl mp2)), (h_S2, .inr (11, [h_S2_0, .ref h_ds2, .ref h_cs2, .ref h_mp2, .ref h_L2, .int n2, .int tk2, .int av2, .int lo2, .int md2])), ((qa_1 0), .inl ((ka_1 0), y53_0, .inl y53_1)), (h_L, .inr (8, [.ref (qa_1 0), .int y53_2, .int y53_3])), (h_pk2, .inl (k_pk2, cap2, .inl pk2)), (h_L2, .inr (8, [.ref h_pk2, .int cn2, .int sn2]))] H := hP
  have hD : va_D A [(h_ds, .inl (k_ds, 6, .inl (va_cpy ds2 ds 0 0 6))), (h_cs, .inl (k_cs, 36, .inl (va_cpy cs2 cs 0 0 36))), (h_mp, .inl (k_mp, 36, .inl (va_cpy mp2 mp 0 0 36))), (h_S, .inr (11, [h_S_0, .ref h_ds, .ref h_cs, .ref h_mp, .ref h_L, .int n2, .int tk2, .int av2, .int lo2, .int md])), (h_ds2, .inl (k_ds2, 6, .inl ds2)), (h_cs2, .inl (k_cs2, 36, .inl cs2)), (h_mp2, .inl (k_mp2, 36, .inl mp2)), (h_S2, .inr (11, [h_S2_0, .ref h_ds2, .ref h_cs2, .ref h_mp2, .ref h_L2, .int n2, .int tk2, .int av2, .int lo2, .int md2])), ((qa_1 0), .inl ((ka_1 0), y53_0, .inl y53_1)), (h_L, .inr (8, [.ref (qa_1 0), .int y53_2, .int y53_3])), (h_pk2, .inl (k_pk2, cap2, .inl pk2)), (h_L2, .inr (8, [.ref h_pk2, .int cn2, .int sn2]))] := hD
  refine lv_aload_n hx hb dX8_copyFrom_88 rfl (lv_at hl 0 rfl) ?_
  refine lv_aload_n hx hb dX8_copyFrom_89 rfl (lv_at hl 1 rfl) ?_
  refine va_get (D := D) (ci := 11) (v := .int md2) (own := RX8) (C := RX8) (T := TX8) (N := 10) hx hb hts hi_X8 hown hK hP 7 rfl rfl 9 (by decide) (hts (.fieldLink RX8 41 "CanalMaps$Survey" "made" "I") (List.mem_of_getElem? (i := 13) (by decide +kernel))) (fun _ h9 => h9) rfl dX8_copyFrom_90 ?_
  refine va_put (D := D) (ci := 11) (v := .int md2) (ty := .int) (own := RX8) (C := RX8) (T := TX8) (N := 10) hx hb hts hi_X8 tyX8 tyX8_ok nmX8 hown hK hP hD hS 3 rfl rfl 9 (by decide) (hts (.fieldLink RX8 41 "CanalMaps$Survey" "made" "I") (List.mem_of_getElem? (i := 13) (by decide +kernel))) (fun _ h9 => h9) rfl (by decide +kernel) rfl rfl (Nat.le_of_ble_eq_true rfl) dX8_copyFrom_93 (fun H locs hP hD hS => ?_)
  have hP : va_P D vwCl [(h_ds, .inl (k_ds, 6, .inl (va_cpy ds2 ds 0 0 6))), (h_cs, .inl (k_cs, 36, .inl (va_cpy cs2 cs 0 0 36))), (h_mp, .inl (k_mp, 36, .inl (va_cpy mp2 mp 0 0 36))), (h_S, .inr (11, [h_S_0, .ref h_ds, .ref h_cs, .ref h_mp, .ref h_L, .int n2, .int tk2, .int av2, .int lo2, .int md2])), (h_ds2, .inl (k_ds2, 6, .inl ds2)), (h_cs2, .inl (k_cs2, 36, .inl cs2)), (h_mp2, .inl (k_mp2, 36, .inl mp2)), (h_S2, .inr (11, [h_S2_0, .ref h_ds2, .ref h_cs2, .ref h_mp2, .ref h_L2, .int n2, .int tk2, .int av2, .int lo2, .int md2])), ((qa_1 0), .inl ((ka_1 0), y53_0, .inl y53_1)), (h_L, .inr (8, [.ref (qa_1 0), .int y53_2, .int y53_3])), (h_pk2, .inl (k_pk2, cap2, .inl pk2)), (h_L2, .inr (8, [.ref h_pk2, .int cn2, .int sn2]))] H := hP
  have hD : va_D A [(h_ds, .inl (k_ds, 6, .inl (va_cpy ds2 ds 0 0 6))), (h_cs, .inl (k_cs, 36, .inl (va_cpy cs2 cs 0 0 36))), (h_mp, .inl (k_mp, 36, .inl (va_cpy mp2 mp 0 0 36))), (h_S, .inr (11, [h_S_0, .ref h_ds, .ref h_cs, .ref h_mp, .ref h_L, .int n2, .int tk2, .int av2, .int lo2, .int md2])), (h_ds2, .inl (k_ds2, 6, .inl ds2)), (h_cs2, .inl (k_cs2, 36, .inl cs2)), (h_mp2, .inl (k_mp2, 36, .inl mp2)), (h_S2, .inr (11, [h_S2_0, .ref h_ds2, .ref h_cs2, .ref h_mp2, .ref h_L2, .int n2, .int tk2, .int av2, .int lo2, .int md2])), ((qa_1 0), .inl ((ka_1 0), y53_0, .inl y53_1)), (h_L, .inr (8, [.ref (qa_1 0), .int y53_2, .int y53_3])), (h_pk2, .inl (k_pk2, cap2, .inl pk2)), (h_L2, .inr (8, [.ref h_pk2, .int cn2, .int sn2]))] := hD
  refine W.widen (k := (FF9).2.2.2.2.2.2.2.2.2.2.2.2.1) (n := (FF9).2.2.2.2.2.2.2.2.2.2.2.2.2) (Nat.le_of_eq (by rw [hM])) (Nat.le_of_eq (by rw [hM])) ?_
  exact W.vret hx hb hr (QG_.mk (fun n => [(qa_1 0)].getD n 0) (fun n => [(ka_1 0)].getD n 0) (fun _ => 0) [0, 1, 2, 8, 9, 3, 4, 5, 6, 10, 11, 7] [0, 1, 2, 6, 3, 4, 5, 7] hP hD hK hS rfl (by rw [hM]; exact ⟨(show 0 ≤ y53_2.toInt from (by have z0 := hy0; have z1 := hy1; have z2 := hy2; have z3 := hy3; have z4 := hy4; have z5 := hy5; have z6 := hy6; have z7 := hy7; have z8 := hy8; have z9 := hy9; have z10 := hen_1; have b37 := Int32.toInt_lt (y53_2); have d37 := Int32.le_toInt (y53_2); omega)), (show y53_2.toInt ≤ y53_0 from (by have z0 := hy0; have z1 := hy1; have z2 := hy2; have z3 := hy3; have z4 := hy4; have z5 := hy5; have z6 := hy6; have z7 := hy7; have z8 := hy8; have z9 := hy9; have z10 := hen_1; have b38 := Int32.toInt_lt (y53_2); have d38 := Int32.le_toInt (y53_2); omega)), (show y53_2.toInt ≤ 1000000 from (by have z0 := hy0; have z1 := hy1; have z2 := hy2; have z3 := hy3; have z4 := hy4; have z5 := hy5; have z6 := hy6; have z7 := hy7; have z8 := hy8; have z9 := hy9; have z10 := hen_1; have b39 := Int32.toInt_lt (y53_2); have d39 := Int32.le_toInt (y53_2); omega)), (show 64 ≤ y53_0 from (by have z0 := hy0; have z1 := hy1; have z2 := hy2; have z3 := hy3; have z4 := hy4; have z5 := hy5; have z6 := hy6; have z7 := hy7; have z8 := hy8; have z9 := hy9; have z10 := hen_1; omega)), (show y53_0 ≤ 2000000 from (by have z0 := hy0; have z1 := hy1; have z2 := hy2; have z3 := hy3; have z4 := hy4; have z5 := hy5; have z6 := hy6; have z7 := hy7; have z8 := hy8; have z9 := hy9; have z10 := hen_1; omega)), (show n2.toInt = n2.toInt from (by have z0 := hy0; have z1 := hy1; have z2 := hy2; have z3 := hy3; have z4 := hy4; have z5 := hy5; have z6 := hy6; have z7 := hy7; have z8 := hy8; have z9 := hy9; have z10 := hen_1; have b40 := Int32.toInt_lt (n2); have d40 := Int32.le_toInt (n2); omega))⟩) (by first | (rw [hM]; rfl) | rfl) (by decide) rfl) hS.2.2 dX8_copyFrom_96
def F_X4_forget  : Int32 := 0
set_option maxHeartbeats 4000000 in
set_option maxRecDepth 100000 in
theorem c_X4_forget (l : Launch) (hl0 : l.stackTraces = false) (D : va_G) (ad : Nat → Nat) (sz : Nat) (h_H : Nat) (h_H_0 : Value) (h_H_1 : Value) (hct : Int32) : Met l yX4_forget wsX4_forget ({ frames := 0, cells := 0, slots := 0, locals := 0 }) (PC_ D ad [(h_H, .inr (7, [h_H_0, h_H_1, .int hct]))] [] sz [.ref h_H]) (QG_ D (fun q i => none) (fun q i => True) (fun q k i => [(h_H, .inr (7, [h_H_0, h_H_1, .int (F_X4_forget)]))]) (fun q k i => []) (va_A [(h_H, .inr (7, [h_H_0, h_H_1, .int hct]))] sz)) 0 0 (va_A [(h_H, .inr (7, [h_H_0, h_H_1, .int hct]))] sz) := by
  refine Met.ofW (cc := cX4_forget) (maxL := 1) (ret := none) (by decide) rfl ?_
  intro p e s m args below meth c s₁ B hml hv
  obtain ⟨rfl, hsz, hP, hK, hD0, hF⟩ := hv
  have hx := B.exec
  have hb := B.bytes
  have hr := B.returns
  have hts := atoms_spec (ws := wsX4_forget) B.pre
  have hown : s.vm.findClass RX4 = some m.cls := findClass_of_methodNamed B.named
  have hlocks := B.notSynchronized
  subst hsz
  have hD := hD0.self (sz := s.heap.size)
  generalize hAe : va_A [(h_H, .inr (7, [h_H_0, h_H_1, .int hct]))] s.heap.size = A at hD hF ⊢
  have hA : ∀ q : Nat, s.heap.size ≤ q → A q := fun q h => by rw [← hAe]; exact Or.inr h
  obtain ⟨H, hHe⟩ : ∃ H : Heap, H = s.heap := ⟨_, rfl⟩
  have hS : va_S A s.heap H [] := by rw [hHe]; exact va_S.rf
  have hP : va_P D vwCl [(h_H, .inr (7, [h_H_0, h_H_1, .int hct]))] H := by rw [hHe]; exact hP
  rw [← hHe]
  have hi_X4 : ∀ w ∈ wsX40, w ∈ wsX4_forget := by decide +kernel
  have hl := lv_entry [.ref h_H] (n := 1) (Nat.le_of_ble_eq_true rfl)
  rw [lg_entry_eq]
  generalize (lg_sl [.ref h_H] ++ List.replicate (1 - (lg_sl [.ref h_H]).length) Slot.unset).toArray = ls at hl ⊢
  have hl : lv_has ls 1 [(0, .ref h_H)] := hl
  have hM : F_X4_forget = 0 := rfl
  refine lv_aload_n hx hb dX4_forget_0 rfl (lv_at hl 0 rfl) ?_
  refine lv_iconst (v := 0) hx hb dX4_forget_1 (by decide) ?_
  refine va_put (D := D) (ci := 7) (v := .int 0) (ty := .int) (own := RX4) (C := RX4) (T := TX4) (N := 3) hx hb hts hi_X4 tyX4 tyX4_ok nmX4 hown hK hP hD hS 0 rfl rfl 2 (by decide) (hts (.fieldLink RX4 21 "CanalMaps$History" "count" "I") (List.mem_of_getElem? (i := 1) (by decide +kernel))) (fun _ h9 => h9) rfl (by decide +kernel) rfl rfl (Nat.le_of_ble_eq_true rfl) dX4_forget_2 (fun H locs hP hD hS => ?_)
  have hP : va_P D vwCl [(h_H, .inr (7, [h_H_0, h_H_1, .int 0]))] H := hP
  have hD : va_D A [(h_H, .inr (7, [h_H_0, h_H_1, .int 0]))] := hD
  refine W.widen (k := 0) (n := 0) (Nat.le_of_ble_eq_true rfl) (Nat.le_of_ble_eq_true rfl) ?_
  exact W.vret hx hb hr (QG_.mk (fun _ => 0) (fun _ => 0) (fun _ => 0) [0] [] hP hD hK hS rfl trivial (by first | (rw [hM]; rfl) | rfl) (by decide) rfl) hS.2.2 dX4_forget_5
def F_Jx29ce0_ordinal_8abf5_ad0  : Int32 := 0
set_option maxHeartbeats 4000000 in
set_option maxRecDepth 100000 in
theorem c_Jx29ce0_ordinal_8abf5_ad0 (l : Launch) (hl0 : l.stackTraces = false) (D : va_G) (ad : Nat → Nat) (sz : Nat)  : Met l yJx29ce0_ordinal_8abf5 wsJx29ce0_ordinal_8abf5 ({ frames := 0, cells := 0, slots := 0, locals := 0 }) (PR_ D ad [] [] sz [.ref (ad 0)]) (QR_ (.int (F_Jx29ce0_ordinal_8abf5_ad0)) (va_A [] sz)) 0 0 (va_A [] sz) := by
  refine Met.ofW (cc := cJx29ce0_ordinal_8abf5) (maxL := 1) (ret := (some .int)) (by decide) rfl ?_
  intro p e s m args below meth c s₁ B hml hv
  obtain ⟨rfl, hsz, hP, hK, hF⟩ := hv
  have hx := B.exec
  have hb := B.bytes
  have hr := B.returns
  have hts := atoms_spec (ws := wsJx29ce0_ordinal_8abf5) B.pre
  have hown : s.vm.findClass RJx29ce0 = some m.cls := findClass_of_methodNamed B.named
  have hlocks := B.notSynchronized
  subst hsz
  generalize hAe : va_A [] s.heap.size = A at hF ⊢
  have hA : ∀ q : Nat, s.heap.size ≤ q → A q := fun q h => by rw [← hAe]; exact Or.inr h
  obtain ⟨H, hHe⟩ : ∃ H : Heap, H = s.heap := ⟨_, rfl⟩
  have hS : va_S A s.heap H [] := by rw [hHe]; exact va_S.rf
  have hP : va_P D vwCl [] H := by rw [hHe]; exact hP
  rw [← hHe]
  have hl := lv_entry [.ref (ad 0)] (n := 1) (Nat.le_of_ble_eq_true rfl)
  rw [lg_entry_eq]
  generalize (lg_sl [.ref (ad 0)] ++ List.replicate (1 - (lg_sl [.ref (ad 0)]).length) Slot.unset).toArray = ls at hl ⊢
  have hl : lv_has ls 1 [(0, .ref (ad 0))] := hl
  have hM : F_Jx29ce0_ordinal_8abf5_ad0 = 0 := rfl
  refine lv_aload_n hx hb dJx29ce0_ordinal_8abf5_0 rfl (lv_at hl 0 rfl) ?_
  refine va_getE (E := "CanalMaps$Change") (d := "LCanalMaps$Change;") (nm := fx_nm) (F := fx_F) (ad := ad) (i := 0) (own := RJx29ce0) (q := ("java/lang/Enum", "ordinal", "I", [0, 1, 2, 3, 4, 5])) hx hb hF.1 (by decide) hS hown List.mem_cons_self (hts (.fieldLink RJx29ce0 7 "java/lang/Enum" "ordinal" "I") (List.mem_of_getElem? (i := 1) (by decide +kernel))) (fun _ h9 => h9) dJx29ce0_ordinal_8abf5_1 ?_
  refine kt_ (v := 0) (by decide +kernel) ?_
  refine W.widen (k := 0) (n := 0) (Nat.le_of_ble_eq_true rfl) (Nat.le_of_ble_eq_true rfl) ?_
  exact W.iret (v := 0) hx hb hr (QR_.mk hS (by rw [hM])) hS.2.2 dJx29ce0_ordinal_8abf5_4
def F_X8_against_ad0 (n : Int32) : Nat × Int32 × Int32 := (if 6 ≤ n then (if (F_X8_because 2 6).1 = 0 then (0, 0, 0) else (1, (F_X8_because 2 6).2.1, (F_X8_because 2 6).2.2)) else (0, 0, 0))
theorem R_X8_against_ad0 {n : Int32} (h : (F_X8_against_ad0 n).1 = 0) : n.toInt < 6 := by
  have e6 : (6 : Int32).toInt = 6 := by decide +kernel
  unfold F_X8_against_ad0 at h
  by_cases c1 : 6 ≤ n
  · rw [if_pos c1] at h; simp [F_X8_because] at h
  have y := f_nle c1
  omega
set_option maxHeartbeats 4000000 in
set_option maxRecDepth 100000 in
theorem c_X8_against_ad0 (l : Launch) (hl0 : l.stackTraces = false) (D : va_G) (ad : Nat → Nat) (sz : Nat) (h_S : Nat) (h_S_0 : Value) (h_S_1 : Value) (h_S_2 : Value) (h_S_3 : Value) (h_S_4 : Value) (h_S_6 : Value) (h_S_7 : Value) (h_S_8 : Value) (h_S_9 : Value) (n : Int32) (a2 : Int32) (a3 : Int32) (a4 : Int32) (hy0 : n.toInt ≤ 6) : Met l yX8_against wsX8_against ({ frames := 3, cells := 1, slots := 3, locals := 88 }) (PC_ D ad [(h_S, .inr (11, [h_S_0, h_S_1, h_S_2, h_S_3, h_S_4, .int n, h_S_6, h_S_7, h_S_8, h_S_9]))] [] sz [.ref h_S, .ref (ad 0), .int a2, .int a3, .int a4]) (QG_ D (fun q i => some (rfV (F_X8_against_ad0 n).1 (q 0))) (fun q i => (F_X8_against_ad0 n).1 = 0 ∨ (F_X8_against_ad0 n).1 = 1) (fun q k i => ([(h_S, .inr (11, [h_S_0, h_S_1, h_S_2, h_S_3, h_S_4, .int n, h_S_6, h_S_7, h_S_8, h_S_9]))] ++ rfW (F_X8_against_ad0 n).1 (q 0) ((F_X8_against_ad0 n).2.1) ((F_X8_against_ad0 n).2.2))) (fun q k i => []) (va_A [(h_S, .inr (11, [h_S_0, h_S_1, h_S_2, h_S_3, h_S_4, .int n, h_S_6, h_S_7, h_S_8, h_S_9]))] sz)) 1 3 (va_A [(h_S, .inr (11, [h_S_0, h_S_1, h_S_2, h_S_3, h_S_4, .int n, h_S_6, h_S_7, h_S_8, h_S_9]))] sz) := by
  refine Met.ofW (cc := cX8_against) (maxL := 5) (ret := (some (.object "CanalMaps$Refusal"))) (by decide) rfl ?_
  intro p e s m args below meth c s₁ B hml hv
  obtain ⟨rfl, hsz, hP, hK, hD0, hF⟩ := hv
  have hx := B.exec
  have hb := B.bytes
  have hr := B.returns
  have hts := atoms_spec (ws := wsX8_against) B.pre
  have hown : s.vm.findClass RX8 = some m.cls := findClass_of_methodNamed B.named
  have hlocks := B.notSynchronized
  subst hsz
  have hD := hD0.self (sz := s.heap.size)
  generalize hAe : va_A [(h_S, .inr (11, [h_S_0, h_S_1, h_S_2, h_S_3, h_S_4, .int n, h_S_6, h_S_7, h_S_8, h_S_9]))] s.heap.size = A at hD hF ⊢
  have hA : ∀ q : Nat, s.heap.size ≤ q → A q := fun q h => by rw [← hAe]; exact Or.inr h
  obtain ⟨H, hHe⟩ : ∃ H : Heap, H = s.heap := ⟨_, rfl⟩
  have hS : va_S A s.heap H [] := by rw [hHe]; exact va_S.rf
  have hP : va_P D vwCl [(h_S, .inr (11, [h_S_0, h_S_1, h_S_2, h_S_3, h_S_4, .int n, h_S_6, h_S_7, h_S_8, h_S_9]))] H := by rw [hHe]; exact hP
  rw [← hHe]
  have hi_X8 : ∀ w ∈ wsX80, w ∈ wsX8_against := by decide +kernel
  have hl := lv_entry [.ref h_S, .ref (ad 0), .int a2, .int a3, .int a4] (n := 5) (Nat.le_of_ble_eq_true rfl)
  rw [lg_entry_eq]
  generalize (lg_sl [.ref h_S, .ref (ad 0), .int a2, .int a3, .int a4] ++ List.replicate (5 - (lg_sl [.ref h_S, .ref (ad 0), .int a2, .int a3, .int a4]).length) Slot.unset).toArray = ls at hl ⊢
  have hl : lv_has ls 5 [(0, .ref h_S), (1, .ref (ad 0)), (2, .int a2), (3, .int a3), (4, .int a4)] := hl
  have hM : F_X8_against_ad0 n = (if 6 ≤ n then (if (F_X8_because 2 6).1 = 0 then (0, 0, 0) else (1, (F_X8_because 2 6).2.1, (F_X8_because 2 6).2.2)) else (0, 0, 0)) := rfl
  refine va_gets (C := "CanalMaps$1") (n := "$SwitchMap$CanalMaps$Change") (d := "[I") (own := RX8) (ref := "CanalMaps$1") (v := .ref (ad 6)) hx hb hF.2.1.1 hS hown (hts (.fieldLink RX8 113 "CanalMaps$1" "$SwitchMap$CanalMaps$Change" "[I") (List.mem_of_getElem? (i := 1) (by decide +kernel))) (fun _ h9 => h9) dX8_against_0 ?_
  refine lv_aload_n hx hb dX8_against_3 rfl (lv_at hl 1 rfl) ?_
  refine kr_ (va_runU (As := []) (rest := [.ref (ad 6)]) ⟨hx, hb, hml, hown, hts⟩ (c_Jx29ce0_ordinal_8abf5_ad0 l hl0 D ad H.size) (va_cwU 0 hts gX8_against_Jx29ce0_ordinal_8abf5_u118X2 rfl rfl rfl rfl (by decide +kernel) ⟨Nat.le_of_ble_eq_true rfl, Nat.le_of_ble_eq_true rfl⟩) ⟨PR_.blind, va_recvE hF.1 (i := 0) (by decide) hS, PR_.pre hF hK (hP.sub [] rfl) hS hA [] rfl⟩ rfl rfl hl.1 rfl (lv_room (Nat.le_of_ble_eq_true rfl)) dX8_against_4 ⟨(Nat.le_of_ble_eq_true rfl), (Nat.le_of_ble_eq_true rfl)⟩) hP hS hA (fun H locs hP hS => ?_)
  refine W.eq (g2 := F0 m 7 ls [.int 0, .ref (ad 6)]) rfl ?_
  refine va_ti (v := .int 1) hx hb hF.2.1.2 hS (vin_ (by decide +kernel)) rfl dX8_against_7 ?_
  refine lv_tableIn (tgt := 44) (off := 36) hx hb dX8_against_8 (by decide +kernel) (by decide +kernel) (by decide +kernel) (by decide) ?_
  refine lv_aload_n hx hb dX8_against_44 rfl (lv_at hl 0 rfl) ?_
  refine va_get (D := D) (ci := 11) (v := .int n) (own := RX8) (C := RX8) (T := TX8) (N := 10) hx hb hts hi_X8 hown hK hP 0 rfl rfl 5 (by decide) (hts (.fieldLink RX8 28 "CanalMaps$Survey" "surveyors" "I") (List.mem_of_getElem? (i := 2) (by decide +kernel))) (fun _ h9 => h9) rfl dX8_against_45 ?_
  refine lv_bipush (v := 6) hx hb dX8_against_48 (by decide) ?_
  refine lv_icmp_ge (tgt := 57) hx hb dX8_against_50 (by decide) (fun c_2 => ?_) (fun c_2 => ?_)
  · rw [if_pos c_2] at hM
    refine lv_iconst (v := 2) hx hb dX8_against_57 (by decide) ?_
    refine lv_bipush (v := 6) hx hb dX8_against_58 (by decide) ?_
    refine kc_ (wc := []) (wr := [(h_S, .inr (11, [h_S_0, h_S_1, h_S_2, h_S_3, h_S_4, .int n, h_S_6, h_S_7, h_S_8, h_S_9]))]) (va_runS (As := [.int 2, .int 6]) (rest := []) ⟨hx, hb, hml, hown, hts⟩ (c_X8_because l hl0 D ad H.size 2 6) (va_cwS 2 hts gX8_against_X8_because rfl rfl rfl (by decide +kernel) ⟨Nat.le_of_ble_eq_true rfl, Nat.le_of_ble_eq_true rfl⟩) ⟨PC_.blind, PC_.pre hF hK hP hD hS hA [] [] rfl (by decide) rfl⟩ rfl rfl hl.1 rfl (lv_room (Nat.le_of_ble_eq_true rfl)) dX8_against_60 ⟨(Nat.le_of_ble_eq_true rfl), (Nat.le_of_ble_eq_true rfl)⟩) hK hP hD hS hA [] [0] [] rfl rfl (by decide) (by decide) rfl (fun qa_3 ka_3 ia H locs hpo hP hD hK hS => ?_)
    rcases hpo with c_4 | c_4
    · rw [c_4] at hP hD
      rw [c_4]
      have hP : va_P D vwCl [(h_S, .inr (11, [h_S_0, h_S_1, h_S_2, h_S_3, h_S_4, .int n, h_S_6, h_S_7, h_S_8, h_S_9]))] H := hP
      have hD : va_D A [(h_S, .inr (11, [h_S_0, h_S_1, h_S_2, h_S_3, h_S_4, .int n, h_S_6, h_S_7, h_S_8, h_S_9]))] := hD
      have hK : va_K D vwCl [] s := hK
      rw [if_pos c_4] at hM
      refine W.eq (g2 := F0 m 63 ls [.null]) rfl ?_
      refine W.widen (k := 1) (n := 3) (Nat.le_of_ble_eq_true rfl) (Nat.le_of_ble_eq_true rfl) ?_
      exact W.aret (v := .null) hx hb hr (Or.inl ⟨_, rfl⟩) (Or.inl rfl) (QG_.mk (fun n => [0].getD n 0) (fun _ => 0) (fun _ => 0) [0] [] hP hD hK hS (by rw [hM]; rfl) (by rw [hM]; exact Or.inl rfl) (by first | (rw [hM]; rfl) | rfl) (by decide) rfl) hS.2.2 dX8_against_63
    · rw [c_4] at hP hD
      rw [c_4]
      have hP : va_P D vwCl [(h_S, .inr (11, [h_S_0, h_S_1, h_S_2, h_S_3, h_S_4, .int n, h_S_6, h_S_7, h_S_8, h_S_9])), ((qa_3 0), .inr (10, [.int (F_X8_because 2 6).2.1, .int (F_X8_because 2 6).2.2, .null]))] H := hP
      have hD : va_D A [(h_S, .inr (11, [h_S_0, h_S_1, h_S_2, h_S_3, h_S_4, .int n, h_S_6, h_S_7, h_S_8, h_S_9])), ((qa_3 0), .inr (10, [.int (F_X8_because 2 6).2.1, .int (F_X8_because 2 6).2.2, .null]))] := hD
      have hK : va_K D vwCl [] s := hK
      rw [if_neg (show ¬ (F_X8_because 2 6).1 = 0 from by rw [c_4]; decide)] at hM
      refine W.eq (g2 := F0 m 63 ls [.ref (qa_3 0)]) rfl ?_
      refine W.widen (k := 1) (n := 3) (Nat.le_of_ble_eq_true rfl) (Nat.le_of_ble_eq_true rfl) ?_
      exact W.aret (v := .ref (qa_3 0)) hx hb hr (Or.inl ⟨_, rfl⟩) (Or.inr ⟨_, rfl⟩) (QG_.mk (fun n => [(qa_3 0)].getD n 0) (fun _ => 0) (fun _ => 0) [0, 1] [] hP hD hK hS (by rw [hM]; rfl) (by rw [hM]; exact Or.inr rfl) (by first | (rw [hM]; rfl) | rfl) (by decide) rfl) hS.2.2 dX8_against_63
  · rw [if_neg c_2] at hM
    refine lv_null hx hb dX8_against_53 ?_
    refine lv_goto (tgt := 63) hx hb dX8_against_54 (by decide) ?_
    refine W.widen (k := 1) (n := 3) (Nat.le_of_ble_eq_true rfl) (Nat.le_of_ble_eq_true rfl) ?_
    exact W.aret (v := .null) hx hb hr (Or.inl ⟨_, rfl⟩) (Or.inl rfl) (QG_.mk (fun n => [0].getD n 0) (fun _ => 0) (fun _ => 0) [0] [] hP hD hK hS (by rw [hM]; rfl) (by rw [hM]; exact Or.inl rfl) (by first | (rw [hM]; rfl) | rfl) (by decide) rfl) hS.2.2 dX8_against_63
def F_Jx29ce0_ordinal_8abf5_ad1  : Int32 := 1
set_option maxHeartbeats 4000000 in
set_option maxRecDepth 100000 in
theorem c_Jx29ce0_ordinal_8abf5_ad1 (l : Launch) (hl0 : l.stackTraces = false) (D : va_G) (ad : Nat → Nat) (sz : Nat)  : Met l yJx29ce0_ordinal_8abf5 wsJx29ce0_ordinal_8abf5 ({ frames := 0, cells := 0, slots := 0, locals := 0 }) (PR_ D ad [] [] sz [.ref (ad 1)]) (QR_ (.int (F_Jx29ce0_ordinal_8abf5_ad1)) (va_A [] sz)) 0 0 (va_A [] sz) := by
  refine Met.ofW (cc := cJx29ce0_ordinal_8abf5) (maxL := 1) (ret := (some .int)) (by decide) rfl ?_
  intro p e s m args below meth c s₁ B hml hv
  obtain ⟨rfl, hsz, hP, hK, hF⟩ := hv
  have hx := B.exec
  have hb := B.bytes
  have hr := B.returns
  have hts := atoms_spec (ws := wsJx29ce0_ordinal_8abf5) B.pre
  have hown : s.vm.findClass RJx29ce0 = some m.cls := findClass_of_methodNamed B.named
  have hlocks := B.notSynchronized
  subst hsz
  generalize hAe : va_A [] s.heap.size = A at hF ⊢
  have hA : ∀ q : Nat, s.heap.size ≤ q → A q := fun q h => by rw [← hAe]; exact Or.inr h
  obtain ⟨H, hHe⟩ : ∃ H : Heap, H = s.heap := ⟨_, rfl⟩
  have hS : va_S A s.heap H [] := by rw [hHe]; exact va_S.rf
  have hP : va_P D vwCl [] H := by rw [hHe]; exact hP
  rw [← hHe]
  have hl := lv_entry [.ref (ad 1)] (n := 1) (Nat.le_of_ble_eq_true rfl)
  rw [lg_entry_eq]
  generalize (lg_sl [.ref (ad 1)] ++ List.replicate (1 - (lg_sl [.ref (ad 1)]).length) Slot.unset).toArray = ls at hl ⊢
  have hl : lv_has ls 1 [(0, .ref (ad 1))] := hl
  have hM : F_Jx29ce0_ordinal_8abf5_ad1 = 1 := rfl
  refine lv_aload_n hx hb dJx29ce0_ordinal_8abf5_0 rfl (lv_at hl 0 rfl) ?_
  refine va_getE (E := "CanalMaps$Change") (d := "LCanalMaps$Change;") (nm := fx_nm) (F := fx_F) (ad := ad) (i := 1) (own := RJx29ce0) (q := ("java/lang/Enum", "ordinal", "I", [0, 1, 2, 3, 4, 5])) hx hb hF.1 (by decide) hS hown List.mem_cons_self (hts (.fieldLink RJx29ce0 7 "java/lang/Enum" "ordinal" "I") (List.mem_of_getElem? (i := 1) (by decide +kernel))) (fun _ h9 => h9) dJx29ce0_ordinal_8abf5_1 ?_
  refine kt_ (v := 1) (by decide +kernel) ?_
  refine W.widen (k := 0) (n := 0) (Nat.le_of_ble_eq_true rfl) (Nat.le_of_ble_eq_true rfl) ?_
  exact W.iret (v := 1) hx hb hr (QR_.mk hS (by rw [hM])) hS.2.2 dJx29ce0_ordinal_8abf5_4
def F_X8_against_ad1 (cs : Nat → Int32) (n : Int32) (a2 : Int32) (a3 : Int32) (a4 : Int32) : Nat × Int32 × Int32 := (if (F_X8_againstCanal cs n a2 a3 a4).1 = 0 then (0, 0, 0) else (1, (F_X8_againstCanal cs n a2 a3 a4).2.1, (F_X8_againstCanal cs n a2 a3 a4).2.2))
theorem R_X8_against_ad1 {cs : Nat → Int32} {n a b c : Int32} (h : (F_X8_against_ad1 cs n a b c).1 = 0) : (0 ≤ a.toInt ∧ a.toInt < n.toInt ∧ 0 ≤ b.toInt ∧ b.toInt < n.toInt ∧ a ≠ b) ∧ 1 ≤ c.toInt ∧ c.toInt ≤ 9 ∧ F_X8_costBetween cs a b ≠ c := by
  unfold F_X8_against_ad1 at h
  by_cases c1 : (F_X8_againstCanal cs n a b c).1 = 0
  · exact R_X8_againstCanal c1
  · rw [if_neg c1] at h; simp at h
set_option maxHeartbeats 4000000 in
set_option maxRecDepth 100000 in
theorem c_X8_against_ad1 (l : Launch) (hl0 : l.stackTraces = false) (D : va_G) (ad : Nat → Nat) (sz : Nat) (h_cs : Nat) (h_S : Nat) (k_cs : ClassId) (h_S_0 : Value) (h_S_1 : Value) (h_S_3 : Value) (h_S_4 : Value) (h_S_6 : Value) (h_S_7 : Value) (h_S_8 : Value) (h_S_9 : Value) (cs : Nat → Int32) (n : Int32) (a2 : Int32) (a3 : Int32) (a4 : Int32) (hy0 : n.toInt ≤ 6) : Met l yX8_against wsX8_against ({ frames := 5, cells := 2, slots := 6, locals := 138 }) (PC_ D ad [(h_cs, .inl (k_cs, 36, .inl cs)), (h_S, .inr (11, [h_S_0, h_S_1, .ref h_cs, h_S_3, h_S_4, .int n, h_S_6, h_S_7, h_S_8, h_S_9]))] [(k_cs, .int)] sz [.ref h_S, .ref (ad 1), .int a2, .int a3, .int a4]) (QG_ D (fun q i => some (rfV (F_X8_against_ad1 cs n a2 a3 a4).1 (q 0))) (fun q i => (F_X8_against_ad1 cs n a2 a3 a4).1 = 0 ∨ (F_X8_against_ad1 cs n a2 a3 a4).1 = 1) (fun q k i => ([(h_cs, .inl (k_cs, 36, .inl cs)), (h_S, .inr (11, [h_S_0, h_S_1, .ref h_cs, h_S_3, h_S_4, .int n, h_S_6, h_S_7, h_S_8, h_S_9]))] ++ rfW (F_X8_against_ad1 cs n a2 a3 a4).1 (q 0) ((F_X8_against_ad1 cs n a2 a3 a4).2.1) ((F_X8_against_ad1 cs n a2 a3 a4).2.2))) (fun q k i => [(k_cs, .int)]) (va_A [(h_cs, .inl (k_cs, 36, .inl cs)), (h_S, .inr (11, [h_S_0, h_S_1, .ref h_cs, h_S_3, h_S_4, .int n, h_S_6, h_S_7, h_S_8, h_S_9]))] sz)) 2 6 (va_A [(h_cs, .inl (k_cs, 36, .inl cs)), (h_S, .inr (11, [h_S_0, h_S_1, .ref h_cs, h_S_3, h_S_4, .int n, h_S_6, h_S_7, h_S_8, h_S_9]))] sz) := by
  refine Met.ofW (cc := cX8_against) (maxL := 5) (ret := (some (.object "CanalMaps$Refusal"))) (by decide) rfl ?_
  intro p e s m args below meth c s₁ B hml hv
  obtain ⟨rfl, hsz, hP, hK, hD0, hF⟩ := hv
  have hx := B.exec
  have hb := B.bytes
  have hr := B.returns
  have hts := atoms_spec (ws := wsX8_against) B.pre
  have hown : s.vm.findClass RX8 = some m.cls := findClass_of_methodNamed B.named
  have hlocks := B.notSynchronized
  subst hsz
  have hD := hD0.self (sz := s.heap.size)
  generalize hAe : va_A [(h_cs, .inl (k_cs, 36, .inl cs)), (h_S, .inr (11, [h_S_0, h_S_1, .ref h_cs, h_S_3, h_S_4, .int n, h_S_6, h_S_7, h_S_8, h_S_9]))] s.heap.size = A at hD hF ⊢
  have hA : ∀ q : Nat, s.heap.size ≤ q → A q := fun q h => by rw [← hAe]; exact Or.inr h
  obtain ⟨H, hHe⟩ : ∃ H : Heap, H = s.heap := ⟨_, rfl⟩
  have hS : va_S A s.heap H [] := by rw [hHe]; exact va_S.rf
  have hP : va_P D vwCl [(h_cs, .inl (k_cs, 36, .inl cs)), (h_S, .inr (11, [h_S_0, h_S_1, .ref h_cs, h_S_3, h_S_4, .int n, h_S_6, h_S_7, h_S_8, h_S_9]))] H := by rw [hHe]; exact hP
  rw [← hHe]
  have hl := lv_entry [.ref h_S, .ref (ad 1), .int a2, .int a3, .int a4] (n := 5) (Nat.le_of_ble_eq_true rfl)
  rw [lg_entry_eq]
  generalize (lg_sl [.ref h_S, .ref (ad 1), .int a2, .int a3, .int a4] ++ List.replicate (5 - (lg_sl [.ref h_S, .ref (ad 1), .int a2, .int a3, .int a4]).length) Slot.unset).toArray = ls at hl ⊢
  have hl : lv_has ls 5 [(0, .ref h_S), (1, .ref (ad 1)), (2, .int a2), (3, .int a3), (4, .int a4)] := hl
  have hM : F_X8_against_ad1 cs n a2 a3 a4 = (if (F_X8_againstCanal cs n a2 a3 a4).1 = 0 then (0, 0, 0) else (1, (F_X8_againstCanal cs n a2 a3 a4).2.1, (F_X8_againstCanal cs n a2 a3 a4).2.2)) := rfl
  refine va_gets (C := "CanalMaps$1") (n := "$SwitchMap$CanalMaps$Change") (d := "[I") (own := RX8) (ref := "CanalMaps$1") (v := .ref (ad 6)) hx hb hF.2.1.1 hS hown (hts (.fieldLink RX8 113 "CanalMaps$1" "$SwitchMap$CanalMaps$Change" "[I") (List.mem_of_getElem? (i := 1) (by decide +kernel))) (fun _ h9 => h9) dX8_against_0 ?_
  refine lv_aload_n hx hb dX8_against_3 rfl (lv_at hl 1 rfl) ?_
  refine kr_ (va_runU (As := []) (rest := [.ref (ad 6)]) ⟨hx, hb, hml, hown, hts⟩ (c_Jx29ce0_ordinal_8abf5_ad1 l hl0 D ad H.size) (va_cwU 0 hts gX8_against_Jx29ce0_ordinal_8abf5_u118X2 rfl rfl rfl rfl (by decide +kernel) ⟨Nat.le_of_ble_eq_true rfl, Nat.le_of_ble_eq_true rfl⟩) ⟨PR_.blind, va_recvE hF.1 (i := 1) (by decide) hS, PR_.pre hF hK (hP.sub [] rfl) hS hA [] rfl⟩ rfl rfl hl.1 rfl (lv_room (Nat.le_of_ble_eq_true rfl)) dX8_against_4 ⟨(Nat.le_of_ble_eq_true rfl), (Nat.le_of_ble_eq_true rfl)⟩) hP hS hA (fun H locs hP hS => ?_)
  refine W.eq (g2 := F0 m 7 ls [.int 1, .ref (ad 6)]) rfl ?_
  refine va_ti (v := .int 2) hx hb hF.2.1.2 hS (vin_ (by decide +kernel)) rfl dX8_against_7 ?_
  refine lv_tableIn (tgt := 64) (off := 56) hx hb dX8_against_8 (by decide +kernel) (by decide +kernel) (by decide +kernel) (by decide) ?_
  refine lv_aload_n hx hb dX8_against_64 rfl (lv_at hl 0 rfl) ?_
  refine lv_iload_n hx hb dX8_against_65 rfl (lv_at hl 2 rfl) ?_
  refine lv_iload_n hx hb dX8_against_66 rfl (lv_at hl 3 rfl) ?_
  refine lv_iload hx hb dX8_against_67 (lv_at hl 4 rfl) ?_
  refine kc_ (wc := [(h_cs, .inl (k_cs, 36, .inl cs)), (h_S, .inr (11, [h_S_0, h_S_1, .ref h_cs, h_S_3, h_S_4, .int n, h_S_6, h_S_7, h_S_8, h_S_9]))]) (wr := []) (va_runV (As := [.int a2, .int a3, .int a4]) (rest := []) ⟨hx, hb, hml, hown, hts⟩ (c_X8_againstCanal l hl0 D ad H.size h_cs h_S k_cs (h_S_0) (h_S_1) (h_S_3) (h_S_4) (h_S_6) (h_S_7) (h_S_8) (h_S_9) cs n a2 a3 a4 (by have z0 := hy0; omega)) (cwV 3 hts gX8_against_X8_againstCanal rfl rfl rfl (by decide +kernel) ⟨Nat.le_of_ble_eq_true rfl, Nat.le_of_ble_eq_true rfl⟩) ⟨PC_.blind, va_recv hK hP (ci := 11) (q0 := 1) rfl rfl, PC_.pre hF hK hP hD hS hA [0, 1] [0] rfl (by decide) rfl⟩ rfl rfl hl.1 rfl (lv_room (Nat.le_of_ble_eq_true rfl)) dX8_against_69 ⟨(Nat.le_of_ble_eq_true rfl), (Nat.le_of_ble_eq_true rfl)⟩) hK hP hD hS hA [0, 1] [] [] rfl rfl (by decide) (by decide) rfl (fun qa_2 ka_2 ia H locs hpo hP hD hK hS => ?_)
  rcases hpo with c_3 | c_3
  · rw [c_3] at hP hD
    rw [c_3]
    have hP : va_P D vwCl [(h_cs, .inl (k_cs, 36, .inl cs)), (h_S, .inr (11, [h_S_0, h_S_1, .ref h_cs, h_S_3, h_S_4, .int n, h_S_6, h_S_7, h_S_8, h_S_9]))] H := hP
    have hD : va_D A [(h_cs, .inl (k_cs, 36, .inl cs)), (h_S, .inr (11, [h_S_0, h_S_1, .ref h_cs, h_S_3, h_S_4, .int n, h_S_6, h_S_7, h_S_8, h_S_9]))] := hD
    have hK : va_K D vwCl [(k_cs, .int)] s := hK
    rw [if_pos c_3] at hM
    refine W.eq (g2 := F0 m 72 ls [.null]) rfl ?_
    refine W.widen (k := 2) (n := 6) (Nat.le_of_ble_eq_true rfl) (Nat.le_of_ble_eq_true rfl) ?_
    exact W.aret (v := .null) hx hb hr (Or.inl ⟨_, rfl⟩) (Or.inl rfl) (QG_.mk (fun n => [0].getD n 0) (fun _ => 0) (fun _ => 0) [0, 1] [0] hP hD hK hS (by rw [hM]; rfl) (by rw [hM]; exact Or.inl rfl) (by first | (rw [hM]; rfl) | rfl) (by decide) rfl) hS.2.2 dX8_against_72
  · rw [c_3] at hP hD
    rw [c_3]
    have hP : va_P D vwCl [(h_cs, .inl (k_cs, 36, .inl cs)), (h_S, .inr (11, [h_S_0, h_S_1, .ref h_cs, h_S_3, h_S_4, .int n, h_S_6, h_S_7, h_S_8, h_S_9])), ((qa_2 0), .inr (10, [.int (F_X8_againstCanal cs n a2 a3 a4).2.1, .int (F_X8_againstCanal cs n a2 a3 a4).2.2, .null]))] H := hP
    have hD : va_D A [(h_cs, .inl (k_cs, 36, .inl cs)), (h_S, .inr (11, [h_S_0, h_S_1, .ref h_cs, h_S_3, h_S_4, .int n, h_S_6, h_S_7, h_S_8, h_S_9])), ((qa_2 0), .inr (10, [.int (F_X8_againstCanal cs n a2 a3 a4).2.1, .int (F_X8_againstCanal cs n a2 a3 a4).2.2, .null]))] := hD
    have hK : va_K D vwCl [(k_cs, .int)] s := hK
    rw [if_neg (show ¬ (F_X8_againstCanal cs n a2 a3 a4).1 = 0 from by rw [c_3]; decide)] at hM
    refine W.eq (g2 := F0 m 72 ls [.ref (qa_2 0)]) rfl ?_
    refine W.widen (k := 2) (n := 6) (Nat.le_of_ble_eq_true rfl) (Nat.le_of_ble_eq_true rfl) ?_
    exact W.aret (v := .ref (qa_2 0)) hx hb hr (Or.inl ⟨_, rfl⟩) (Or.inr ⟨_, rfl⟩) (QG_.mk (fun n => [(qa_2 0)].getD n 0) (fun _ => 0) (fun _ => 0) [0, 1, 2] [0] hP hD hK hS (by rw [hM]; rfl) (by rw [hM]; exact Or.inr rfl) (by first | (rw [hM]; rfl) | rfl) (by decide) rfl) hS.2.2 dX8_against_72
def F_Jx29ce0_ordinal_8abf5_ad2  : Int32 := 2
set_option maxHeartbeats 4000000 in
set_option maxRecDepth 100000 in
theorem c_Jx29ce0_ordinal_8abf5_ad2 (l : Launch) (hl0 : l.stackTraces = false) (D : va_G) (ad : Nat → Nat) (sz : Nat)  : Met l yJx29ce0_ordinal_8abf5 wsJx29ce0_ordinal_8abf5 ({ frames := 0, cells := 0, slots := 0, locals := 0 }) (PR_ D ad [] [] sz [.ref (ad 2)]) (QR_ (.int (F_Jx29ce0_ordinal_8abf5_ad2)) (va_A [] sz)) 0 0 (va_A [] sz) := by
  refine Met.ofW (cc := cJx29ce0_ordinal_8abf5) (maxL := 1) (ret := (some .int)) (by decide) rfl ?_
  intro p e s m args below meth c s₁ B hml hv
  obtain ⟨rfl, hsz, hP, hK, hF⟩ := hv
  have hx := B.exec
  have hb := B.bytes
  have hr := B.returns
  have hts := atoms_spec (ws := wsJx29ce0_ordinal_8abf5) B.pre
  have hown : s.vm.findClass RJx29ce0 = some m.cls := findClass_of_methodNamed B.named
  have hlocks := B.notSynchronized
  subst hsz
  generalize hAe : va_A [] s.heap.size = A at hF ⊢
  have hA : ∀ q : Nat, s.heap.size ≤ q → A q := fun q h => by rw [← hAe]; exact Or.inr h
  obtain ⟨H, hHe⟩ : ∃ H : Heap, H = s.heap := ⟨_, rfl⟩
  have hS : va_S A s.heap H [] := by rw [hHe]; exact va_S.rf
  have hP : va_P D vwCl [] H := by rw [hHe]; exact hP
  rw [← hHe]
  have hl := lv_entry [.ref (ad 2)] (n := 1) (Nat.le_of_ble_eq_true rfl)
  rw [lg_entry_eq]
  generalize (lg_sl [.ref (ad 2)] ++ List.replicate (1 - (lg_sl [.ref (ad 2)]).length) Slot.unset).toArray = ls at hl ⊢
  have hl : lv_has ls 1 [(0, .ref (ad 2))] := hl
  have hM : F_Jx29ce0_ordinal_8abf5_ad2 = 2 := rfl
  refine lv_aload_n hx hb dJx29ce0_ordinal_8abf5_0 rfl (lv_at hl 0 rfl) ?_
  refine va_getE (E := "CanalMaps$Change") (d := "LCanalMaps$Change;") (nm := fx_nm) (F := fx_F) (ad := ad) (i := 2) (own := RJx29ce0) (q := ("java/lang/Enum", "ordinal", "I", [0, 1, 2, 3, 4, 5])) hx hb hF.1 (by decide) hS hown List.mem_cons_self (hts (.fieldLink RJx29ce0 7 "java/lang/Enum" "ordinal" "I") (List.mem_of_getElem? (i := 1) (by decide +kernel))) (fun _ h9 => h9) dJx29ce0_ordinal_8abf5_1 ?_
  refine kt_ (v := 2) (by decide +kernel) ?_
  refine W.widen (k := 0) (n := 0) (Nat.le_of_ble_eq_true rfl) (Nat.le_of_ble_eq_true rfl) ?_
  exact W.iret (v := 2) hx hb hr (QR_.mk hS (by rw [hM])) hS.2.2 dJx29ce0_ordinal_8abf5_4
def F_X8_against_ad2 (cs : Nat → Int32) (n : Int32) (a2 : Int32) (a3 : Int32) : Nat × Int32 × Int32 := (if (F_X8_againstClosing cs n a2 a3).1 = 0 then (0, 0, 0) else (1, (F_X8_againstClosing cs n a2 a3).2.1, (F_X8_againstClosing cs n a2 a3).2.2))
theorem R_X8_against_ad2 {cs : Nat → Int32} {n a b : Int32} (h : (F_X8_against_ad2 cs n a b).1 = 0) : (0 ≤ a.toInt ∧ a.toInt < n.toInt ∧ 0 ≤ b.toInt ∧ b.toInt < n.toInt ∧ a ≠ b) ∧ F_X8_costBetween cs a b ≠ 0 := by
  unfold F_X8_against_ad2 at h
  by_cases c1 : (F_X8_againstClosing cs n a b).1 = 0
  · exact R_X8_againstClosing c1
  · rw [if_neg c1] at h; simp at h
set_option maxHeartbeats 4000000 in
set_option maxRecDepth 100000 in
theorem c_X8_against_ad2 (l : Launch) (hl0 : l.stackTraces = false) (D : va_G) (ad : Nat → Nat) (sz : Nat) (h_cs : Nat) (h_S : Nat) (k_cs : ClassId) (h_S_0 : Value) (h_S_1 : Value) (h_S_3 : Value) (h_S_4 : Value) (h_S_6 : Value) (h_S_7 : Value) (h_S_8 : Value) (h_S_9 : Value) (cs : Nat → Int32) (n : Int32) (a2 : Int32) (a3 : Int32) (a4 : Int32) (hy0 : n.toInt ≤ 6) : Met l yX8_against wsX8_against ({ frames := 5, cells := 2, slots := 6, locals := 137 }) (PC_ D ad [(h_cs, .inl (k_cs, 36, .inl cs)), (h_S, .inr (11, [h_S_0, h_S_1, .ref h_cs, h_S_3, h_S_4, .int n, h_S_6, h_S_7, h_S_8, h_S_9]))] [(k_cs, .int)] sz [.ref h_S, .ref (ad 2), .int a2, .int a3, .int a4]) (QG_ D (fun q i => some (rfV (F_X8_against_ad2 cs n a2 a3).1 (q 0))) (fun q i => (F_X8_against_ad2 cs n a2 a3).1 = 0 ∨ (F_X8_against_ad2 cs n a2 a3).1 = 1) (fun q k i => ([(h_cs, .inl (k_cs, 36, .inl cs)), (h_S, .inr (11, [h_S_0, h_S_1, .ref h_cs, h_S_3, h_S_4, .int n, h_S_6, h_S_7, h_S_8, h_S_9]))] ++ rfW (F_X8_against_ad2 cs n a2 a3).1 (q 0) ((F_X8_against_ad2 cs n a2 a3).2.1) ((F_X8_against_ad2 cs n a2 a3).2.2))) (fun q k i => [(k_cs, .int)]) (va_A [(h_cs, .inl (k_cs, 36, .inl cs)), (h_S, .inr (11, [h_S_0, h_S_1, .ref h_cs, h_S_3, h_S_4, .int n, h_S_6, h_S_7, h_S_8, h_S_9]))] sz)) 2 6 (va_A [(h_cs, .inl (k_cs, 36, .inl cs)), (h_S, .inr (11, [h_S_0, h_S_1, .ref h_cs, h_S_3, h_S_4, .int n, h_S_6, h_S_7, h_S_8, h_S_9]))] sz) := by
  refine Met.ofW (cc := cX8_against) (maxL := 5) (ret := (some (.object "CanalMaps$Refusal"))) (by decide) rfl ?_
  intro p e s m args below meth c s₁ B hml hv
  obtain ⟨rfl, hsz, hP, hK, hD0, hF⟩ := hv
  have hx := B.exec
  have hb := B.bytes
  have hr := B.returns
  have hts := atoms_spec (ws := wsX8_against) B.pre
  have hown : s.vm.findClass RX8 = some m.cls := findClass_of_methodNamed B.named
  have hlocks := B.notSynchronized
  subst hsz
  have hD := hD0.self (sz := s.heap.size)
  generalize hAe : va_A [(h_cs, .inl (k_cs, 36, .inl cs)), (h_S, .inr (11, [h_S_0, h_S_1, .ref h_cs, h_S_3, h_S_4, .int n, h_S_6, h_S_7, h_S_8, h_S_9]))] s.heap.size = A at hD hF ⊢
  have hA : ∀ q : Nat, s.heap.size ≤ q → A q := fun q h => by rw [← hAe]; exact Or.inr h
  obtain ⟨H, hHe⟩ : ∃ H : Heap, H = s.heap := ⟨_, rfl⟩
  have hS : va_S A s.heap H [] := by rw [hHe]; exact va_S.rf
  have hP : va_P D vwCl [(h_cs, .inl (k_cs, 36, .inl cs)), (h_S, .inr (11, [h_S_0, h_S_1, .ref h_cs, h_S_3, h_S_4, .int n, h_S_6, h_S_7, h_S_8, h_S_9]))] H := by rw [hHe]; exact hP
  rw [← hHe]
  have hl := lv_entry [.ref h_S, .ref (ad 2), .int a2, .int a3, .int a4] (n := 5) (Nat.le_of_ble_eq_true rfl)
  rw [lg_entry_eq]
  generalize (lg_sl [.ref h_S, .ref (ad 2), .int a2, .int a3, .int a4] ++ List.replicate (5 - (lg_sl [.ref h_S, .ref (ad 2), .int a2, .int a3, .int a4]).length) Slot.unset).toArray = ls at hl ⊢
  have hl : lv_has ls 5 [(0, .ref h_S), (1, .ref (ad 2)), (2, .int a2), (3, .int a3), (4, .int a4)] := hl
  have hM : F_X8_against_ad2 cs n a2 a3 = (if (F_X8_againstClosing cs n a2 a3).1 = 0 then (0, 0, 0) else (1, (F_X8_againstClosing cs n a2 a3).2.1, (F_X8_againstClosing cs n a2 a3).2.2)) := rfl
  refine va_gets (C := "CanalMaps$1") (n := "$SwitchMap$CanalMaps$Change") (d := "[I") (own := RX8) (ref := "CanalMaps$1") (v := .ref (ad 6)) hx hb hF.2.1.1 hS hown (hts (.fieldLink RX8 113 "CanalMaps$1" "$SwitchMap$CanalMaps$Change" "[I") (List.mem_of_getElem? (i := 1) (by decide +kernel))) (fun _ h9 => h9) dX8_against_0 ?_
  refine lv_aload_n hx hb dX8_against_3 rfl (lv_at hl 1 rfl) ?_
  refine kr_ (va_runU (As := []) (rest := [.ref (ad 6)]) ⟨hx, hb, hml, hown, hts⟩ (c_Jx29ce0_ordinal_8abf5_ad2 l hl0 D ad H.size) (va_cwU 0 hts gX8_against_Jx29ce0_ordinal_8abf5_u118X2 rfl rfl rfl rfl (by decide +kernel) ⟨Nat.le_of_ble_eq_true rfl, Nat.le_of_ble_eq_true rfl⟩) ⟨PR_.blind, va_recvE hF.1 (i := 2) (by decide) hS, PR_.pre hF hK (hP.sub [] rfl) hS hA [] rfl⟩ rfl rfl hl.1 rfl (lv_room (Nat.le_of_ble_eq_true rfl)) dX8_against_4 ⟨(Nat.le_of_ble_eq_true rfl), (Nat.le_of_ble_eq_true rfl)⟩) hP hS hA (fun H locs hP hS => ?_)
  refine W.eq (g2 := F0 m 7 ls [.int 2, .ref (ad 6)]) rfl ?_
  refine va_ti (v := .int 3) hx hb hF.2.1.2 hS (vin_ (by decide +kernel)) rfl dX8_against_7 ?_
  refine lv_tableIn (tgt := 73) (off := 65) hx hb dX8_against_8 (by decide +kernel) (by decide +kernel) (by decide +kernel) (by decide) ?_
  refine lv_aload_n hx hb dX8_against_73 rfl (lv_at hl 0 rfl) ?_
  refine lv_iload_n hx hb dX8_against_74 rfl (lv_at hl 2 rfl) ?_
  refine lv_iload_n hx hb dX8_against_75 rfl (lv_at hl 3 rfl) ?_
  refine kc_ (wc := [(h_cs, .inl (k_cs, 36, .inl cs)), (h_S, .inr (11, [h_S_0, h_S_1, .ref h_cs, h_S_3, h_S_4, .int n, h_S_6, h_S_7, h_S_8, h_S_9]))]) (wr := []) (va_runV (As := [.int a2, .int a3]) (rest := []) ⟨hx, hb, hml, hown, hts⟩ (c_X8_againstClosing l hl0 D ad H.size h_cs h_S k_cs (h_S_0) (h_S_1) (h_S_3) (h_S_4) (h_S_6) (h_S_7) (h_S_8) (h_S_9) cs n a2 a3 (by have z0 := hy0; omega)) (cwV 2 hts gX8_against_X8_againstClosing rfl rfl rfl (by decide +kernel) ⟨Nat.le_of_ble_eq_true rfl, Nat.le_of_ble_eq_true rfl⟩) ⟨PC_.blind, va_recv hK hP (ci := 11) (q0 := 1) rfl rfl, PC_.pre hF hK hP hD hS hA [0, 1] [0] rfl (by decide) rfl⟩ rfl rfl hl.1 rfl (lv_room (Nat.le_of_ble_eq_true rfl)) dX8_against_76 ⟨(Nat.le_of_ble_eq_true rfl), (Nat.le_of_ble_eq_true rfl)⟩) hK hP hD hS hA [0, 1] [] [] rfl rfl (by decide) (by decide) rfl (fun qa_2 ka_2 ia H locs hpo hP hD hK hS => ?_)
  rcases hpo with c_3 | c_3
  · rw [c_3] at hP hD
    rw [c_3]
    have hP : va_P D vwCl [(h_cs, .inl (k_cs, 36, .inl cs)), (h_S, .inr (11, [h_S_0, h_S_1, .ref h_cs, h_S_3, h_S_4, .int n, h_S_6, h_S_7, h_S_8, h_S_9]))] H := hP
    have hD : va_D A [(h_cs, .inl (k_cs, 36, .inl cs)), (h_S, .inr (11, [h_S_0, h_S_1, .ref h_cs, h_S_3, h_S_4, .int n, h_S_6, h_S_7, h_S_8, h_S_9]))] := hD
    have hK : va_K D vwCl [(k_cs, .int)] s := hK
    rw [if_pos c_3] at hM
    refine W.eq (g2 := F0 m 79 ls [.null]) rfl ?_
    refine W.widen (k := 2) (n := 6) (Nat.le_of_ble_eq_true rfl) (Nat.le_of_ble_eq_true rfl) ?_
    exact W.aret (v := .null) hx hb hr (Or.inl ⟨_, rfl⟩) (Or.inl rfl) (QG_.mk (fun n => [0].getD n 0) (fun _ => 0) (fun _ => 0) [0, 1] [0] hP hD hK hS (by rw [hM]; rfl) (by rw [hM]; exact Or.inl rfl) (by first | (rw [hM]; rfl) | rfl) (by decide) rfl) hS.2.2 dX8_against_79
  · rw [c_3] at hP hD
    rw [c_3]
    have hP : va_P D vwCl [(h_cs, .inl (k_cs, 36, .inl cs)), (h_S, .inr (11, [h_S_0, h_S_1, .ref h_cs, h_S_3, h_S_4, .int n, h_S_6, h_S_7, h_S_8, h_S_9])), ((qa_2 0), .inr (10, [.int (F_X8_againstClosing cs n a2 a3).2.1, .int (F_X8_againstClosing cs n a2 a3).2.2, .null]))] H := hP
    have hD : va_D A [(h_cs, .inl (k_cs, 36, .inl cs)), (h_S, .inr (11, [h_S_0, h_S_1, .ref h_cs, h_S_3, h_S_4, .int n, h_S_6, h_S_7, h_S_8, h_S_9])), ((qa_2 0), .inr (10, [.int (F_X8_againstClosing cs n a2 a3).2.1, .int (F_X8_againstClosing cs n a2 a3).2.2, .null]))] := hD
    have hK : va_K D vwCl [(k_cs, .int)] s := hK
    rw [if_neg (show ¬ (F_X8_againstClosing cs n a2 a3).1 = 0 from by rw [c_3]; decide)] at hM
    refine W.eq (g2 := F0 m 79 ls [.ref (qa_2 0)]) rfl ?_
    refine W.widen (k := 2) (n := 6) (Nat.le_of_ble_eq_true rfl) (Nat.le_of_ble_eq_true rfl) ?_
    exact W.aret (v := .ref (qa_2 0)) hx hb hr (Or.inl ⟨_, rfl⟩) (Or.inr ⟨_, rfl⟩) (QG_.mk (fun n => [(qa_2 0)].getD n 0) (fun _ => 0) (fun _ => 0) [0, 1, 2] [0] hP hD hK hS (by rw [hM]; rfl) (by rw [hM]; exact Or.inr rfl) (by first | (rw [hM]; rfl) | rfl) (by decide) rfl) hS.2.2 dX8_against_79
def F_Jx29ce0_ordinal_8abf5_ad3  : Int32 := 3
set_option maxHeartbeats 4000000 in
set_option maxRecDepth 100000 in
theorem c_Jx29ce0_ordinal_8abf5_ad3 (l : Launch) (hl0 : l.stackTraces = false) (D : va_G) (ad : Nat → Nat) (sz : Nat)  : Met l yJx29ce0_ordinal_8abf5 wsJx29ce0_ordinal_8abf5 ({ frames := 0, cells := 0, slots := 0, locals := 0 }) (PR_ D ad [] [] sz [.ref (ad 3)]) (QR_ (.int (F_Jx29ce0_ordinal_8abf5_ad3)) (va_A [] sz)) 0 0 (va_A [] sz) := by
  refine Met.ofW (cc := cJx29ce0_ordinal_8abf5) (maxL := 1) (ret := (some .int)) (by decide) rfl ?_
  intro p e s m args below meth c s₁ B hml hv
  obtain ⟨rfl, hsz, hP, hK, hF⟩ := hv
  have hx := B.exec
  have hb := B.bytes
  have hr := B.returns
  have hts := atoms_spec (ws := wsJx29ce0_ordinal_8abf5) B.pre
  have hown : s.vm.findClass RJx29ce0 = some m.cls := findClass_of_methodNamed B.named
  have hlocks := B.notSynchronized
  subst hsz
  generalize hAe : va_A [] s.heap.size = A at hF ⊢
  have hA : ∀ q : Nat, s.heap.size ≤ q → A q := fun q h => by rw [← hAe]; exact Or.inr h
  obtain ⟨H, hHe⟩ : ∃ H : Heap, H = s.heap := ⟨_, rfl⟩
  have hS : va_S A s.heap H [] := by rw [hHe]; exact va_S.rf
  have hP : va_P D vwCl [] H := by rw [hHe]; exact hP
  rw [← hHe]
  have hl := lv_entry [.ref (ad 3)] (n := 1) (Nat.le_of_ble_eq_true rfl)
  rw [lg_entry_eq]
  generalize (lg_sl [.ref (ad 3)] ++ List.replicate (1 - (lg_sl [.ref (ad 3)]).length) Slot.unset).toArray = ls at hl ⊢
  have hl : lv_has ls 1 [(0, .ref (ad 3))] := hl
  have hM : F_Jx29ce0_ordinal_8abf5_ad3 = 3 := rfl
  refine lv_aload_n hx hb dJx29ce0_ordinal_8abf5_0 rfl (lv_at hl 0 rfl) ?_
  refine va_getE (E := "CanalMaps$Change") (d := "LCanalMaps$Change;") (nm := fx_nm) (F := fx_F) (ad := ad) (i := 3) (own := RJx29ce0) (q := ("java/lang/Enum", "ordinal", "I", [0, 1, 2, 3, 4, 5])) hx hb hF.1 (by decide) hS hown List.mem_cons_self (hts (.fieldLink RJx29ce0 7 "java/lang/Enum" "ordinal" "I") (List.mem_of_getElem? (i := 1) (by decide +kernel))) (fun _ h9 => h9) dJx29ce0_ordinal_8abf5_1 ?_
  refine kt_ (v := 3) (by decide +kernel) ?_
  refine W.widen (k := 0) (n := 0) (Nat.le_of_ble_eq_true rfl) (Nat.le_of_ble_eq_true rfl) ?_
  exact W.iret (v := 3) hx hb hr (QR_.mk hS (by rw [hM])) hS.2.2 dJx29ce0_ordinal_8abf5_4
def F_X8_against_ad3 (ds : Nat → Int32) (n : Int32) (a2 : Int32) (a3 : Int32) : Nat × Int32 × Int32 := (if (F_X8_againstDistrict ds n a2 a3).1 = 0 then (0, 0, 0) else (1, (F_X8_againstDistrict ds n a2 a3).2.1, (F_X8_againstDistrict ds n a2 a3).2.2))
theorem R_X8_against_ad3 {ds : Nat → Int32} {n a b : Int32} (h : (F_X8_against_ad3 ds n a b).1 = 0) : 0 ≤ a.toInt ∧ a.toInt < n.toInt ∧ 0 ≤ b.toInt ∧ b.toInt < 3 ∧ ds (ix a) ≠ b := by
  unfold F_X8_against_ad3 at h
  by_cases c1 : (F_X8_againstDistrict ds n a b).1 = 0
  · exact R_X8_againstDistrict c1
  · rw [if_neg c1] at h; simp at h
set_option maxHeartbeats 4000000 in
set_option maxRecDepth 100000 in
theorem c_X8_against_ad3 (l : Launch) (hl0 : l.stackTraces = false) (D : va_G) (ad : Nat → Nat) (sz : Nat) (h_ds : Nat) (h_S : Nat) (k_ds : ClassId) (h_S_0 : Value) (h_S_2 : Value) (h_S_3 : Value) (h_S_4 : Value) (h_S_6 : Value) (h_S_7 : Value) (h_S_8 : Value) (h_S_9 : Value) (ds : Nat → Int32) (n : Int32) (a2 : Int32) (a3 : Int32) (a4 : Int32) (hy0 : n.toInt ≤ 6) : Met l yX8_against wsX8_against ({ frames := 4, cells := 1, slots := 3, locals := 112 }) (PC_ D ad [(h_ds, .inl (k_ds, 6, .inl ds)), (h_S, .inr (11, [h_S_0, .ref h_ds, h_S_2, h_S_3, h_S_4, .int n, h_S_6, h_S_7, h_S_8, h_S_9]))] [(k_ds, .int)] sz [.ref h_S, .ref (ad 3), .int a2, .int a3, .int a4]) (QG_ D (fun q i => some (rfV (F_X8_against_ad3 ds n a2 a3).1 (q 0))) (fun q i => (F_X8_against_ad3 ds n a2 a3).1 = 0 ∨ (F_X8_against_ad3 ds n a2 a3).1 = 1) (fun q k i => ([(h_ds, .inl (k_ds, 6, .inl ds)), (h_S, .inr (11, [h_S_0, .ref h_ds, h_S_2, h_S_3, h_S_4, .int n, h_S_6, h_S_7, h_S_8, h_S_9]))] ++ rfW (F_X8_against_ad3 ds n a2 a3).1 (q 0) ((F_X8_against_ad3 ds n a2 a3).2.1) ((F_X8_against_ad3 ds n a2 a3).2.2))) (fun q k i => [(k_ds, .int)]) (va_A [(h_ds, .inl (k_ds, 6, .inl ds)), (h_S, .inr (11, [h_S_0, .ref h_ds, h_S_2, h_S_3, h_S_4, .int n, h_S_6, h_S_7, h_S_8, h_S_9]))] sz)) 1 3 (va_A [(h_ds, .inl (k_ds, 6, .inl ds)), (h_S, .inr (11, [h_S_0, .ref h_ds, h_S_2, h_S_3, h_S_4, .int n, h_S_6, h_S_7, h_S_8, h_S_9]))] sz) := by
  refine Met.ofW (cc := cX8_against) (maxL := 5) (ret := (some (.object "CanalMaps$Refusal"))) (by decide) rfl ?_
  intro p e s m args below meth c s₁ B hml hv
  obtain ⟨rfl, hsz, hP, hK, hD0, hF⟩ := hv
  have hx := B.exec
  have hb := B.bytes
  have hr := B.returns
  have hts := atoms_spec (ws := wsX8_against) B.pre
  have hown : s.vm.findClass RX8 = some m.cls := findClass_of_methodNamed B.named
  have hlocks := B.notSynchronized
  subst hsz
  have hD := hD0.self (sz := s.heap.size)
  generalize hAe : va_A [(h_ds, .inl (k_ds, 6, .inl ds)), (h_S, .inr (11, [h_S_0, .ref h_ds, h_S_2, h_S_3, h_S_4, .int n, h_S_6, h_S_7, h_S_8, h_S_9]))] s.heap.size = A at hD hF ⊢
  have hA : ∀ q : Nat, s.heap.size ≤ q → A q := fun q h => by rw [← hAe]; exact Or.inr h
  obtain ⟨H, hHe⟩ : ∃ H : Heap, H = s.heap := ⟨_, rfl⟩
  have hS : va_S A s.heap H [] := by rw [hHe]; exact va_S.rf
  have hP : va_P D vwCl [(h_ds, .inl (k_ds, 6, .inl ds)), (h_S, .inr (11, [h_S_0, .ref h_ds, h_S_2, h_S_3, h_S_4, .int n, h_S_6, h_S_7, h_S_8, h_S_9]))] H := by rw [hHe]; exact hP
  rw [← hHe]
  have hl := lv_entry [.ref h_S, .ref (ad 3), .int a2, .int a3, .int a4] (n := 5) (Nat.le_of_ble_eq_true rfl)
  rw [lg_entry_eq]
  generalize (lg_sl [.ref h_S, .ref (ad 3), .int a2, .int a3, .int a4] ++ List.replicate (5 - (lg_sl [.ref h_S, .ref (ad 3), .int a2, .int a3, .int a4]).length) Slot.unset).toArray = ls at hl ⊢
  have hl : lv_has ls 5 [(0, .ref h_S), (1, .ref (ad 3)), (2, .int a2), (3, .int a3), (4, .int a4)] := hl
  have hM : F_X8_against_ad3 ds n a2 a3 = (if (F_X8_againstDistrict ds n a2 a3).1 = 0 then (0, 0, 0) else (1, (F_X8_againstDistrict ds n a2 a3).2.1, (F_X8_againstDistrict ds n a2 a3).2.2)) := rfl
  refine va_gets (C := "CanalMaps$1") (n := "$SwitchMap$CanalMaps$Change") (d := "[I") (own := RX8) (ref := "CanalMaps$1") (v := .ref (ad 6)) hx hb hF.2.1.1 hS hown (hts (.fieldLink RX8 113 "CanalMaps$1" "$SwitchMap$CanalMaps$Change" "[I") (List.mem_of_getElem? (i := 1) (by decide +kernel))) (fun _ h9 => h9) dX8_against_0 ?_
  refine lv_aload_n hx hb dX8_against_3 rfl (lv_at hl 1 rfl) ?_
  refine kr_ (va_runU (As := []) (rest := [.ref (ad 6)]) ⟨hx, hb, hml, hown, hts⟩ (c_Jx29ce0_ordinal_8abf5_ad3 l hl0 D ad H.size) (va_cwU 0 hts gX8_against_Jx29ce0_ordinal_8abf5_u118X2 rfl rfl rfl rfl (by decide +kernel) ⟨Nat.le_of_ble_eq_true rfl, Nat.le_of_ble_eq_true rfl⟩) ⟨PR_.blind, va_recvE hF.1 (i := 3) (by decide) hS, PR_.pre hF hK (hP.sub [] rfl) hS hA [] rfl⟩ rfl rfl hl.1 rfl (lv_room (Nat.le_of_ble_eq_true rfl)) dX8_against_4 ⟨(Nat.le_of_ble_eq_true rfl), (Nat.le_of_ble_eq_true rfl)⟩) hP hS hA (fun H locs hP hS => ?_)
  refine W.eq (g2 := F0 m 7 ls [.int 3, .ref (ad 6)]) rfl ?_
  refine va_ti (v := .int 4) hx hb hF.2.1.2 hS (vin_ (by decide +kernel)) rfl dX8_against_7 ?_
  refine lv_tableIn (tgt := 80) (off := 72) hx hb dX8_against_8 (by decide +kernel) (by decide +kernel) (by decide +kernel) (by decide) ?_
  refine lv_aload_n hx hb dX8_against_80 rfl (lv_at hl 0 rfl) ?_
  refine lv_iload_n hx hb dX8_against_81 rfl (lv_at hl 2 rfl) ?_
  refine lv_iload_n hx hb dX8_against_82 rfl (lv_at hl 3 rfl) ?_
  refine kc_ (wc := [(h_ds, .inl (k_ds, 6, .inl ds)), (h_S, .inr (11, [h_S_0, .ref h_ds, h_S_2, h_S_3, h_S_4, .int n, h_S_6, h_S_7, h_S_8, h_S_9]))]) (wr := []) (va_runV (As := [.int a2, .int a3]) (rest := []) ⟨hx, hb, hml, hown, hts⟩ (c_X8_againstDistrict l hl0 D ad H.size h_ds h_S k_ds (h_S_0) (h_S_2) (h_S_3) (h_S_4) (h_S_6) (h_S_7) (h_S_8) (h_S_9) ds n a2 a3 (by have z0 := hy0; omega)) (cwV 2 hts gX8_against_X8_againstDistrict rfl rfl rfl (by decide +kernel) ⟨Nat.le_of_ble_eq_true rfl, Nat.le_of_ble_eq_true rfl⟩) ⟨PC_.blind, va_recv hK hP (ci := 11) (q0 := 1) rfl rfl, PC_.pre hF hK hP hD hS hA [0, 1] [0] rfl (by decide) rfl⟩ rfl rfl hl.1 rfl (lv_room (Nat.le_of_ble_eq_true rfl)) dX8_against_83 ⟨(Nat.le_of_ble_eq_true rfl), (Nat.le_of_ble_eq_true rfl)⟩) hK hP hD hS hA [0, 1] [] [] rfl rfl (by decide) (by decide) rfl (fun qa_2 ka_2 ia H locs hpo hP hD hK hS => ?_)
  rcases hpo with c_3 | c_3
  · rw [c_3] at hP hD
    rw [c_3]
    have hP : va_P D vwCl [(h_ds, .inl (k_ds, 6, .inl ds)), (h_S, .inr (11, [h_S_0, .ref h_ds, h_S_2, h_S_3, h_S_4, .int n, h_S_6, h_S_7, h_S_8, h_S_9]))] H := hP
    have hD : va_D A [(h_ds, .inl (k_ds, 6, .inl ds)), (h_S, .inr (11, [h_S_0, .ref h_ds, h_S_2, h_S_3, h_S_4, .int n, h_S_6, h_S_7, h_S_8, h_S_9]))] := hD
    have hK : va_K D vwCl [(k_ds, .int)] s := hK
    rw [if_pos c_3] at hM
    refine W.eq (g2 := F0 m 86 ls [.null]) rfl ?_
    refine W.widen (k := 1) (n := 3) (Nat.le_of_ble_eq_true rfl) (Nat.le_of_ble_eq_true rfl) ?_
    exact W.aret (v := .null) hx hb hr (Or.inl ⟨_, rfl⟩) (Or.inl rfl) (QG_.mk (fun n => [0].getD n 0) (fun _ => 0) (fun _ => 0) [0, 1] [0] hP hD hK hS (by rw [hM]; rfl) (by rw [hM]; exact Or.inl rfl) (by first | (rw [hM]; rfl) | rfl) (by decide) rfl) hS.2.2 dX8_against_86
  · rw [c_3] at hP hD
    rw [c_3]
    have hP : va_P D vwCl [(h_ds, .inl (k_ds, 6, .inl ds)), (h_S, .inr (11, [h_S_0, .ref h_ds, h_S_2, h_S_3, h_S_4, .int n, h_S_6, h_S_7, h_S_8, h_S_9])), ((qa_2 0), .inr (10, [.int (F_X8_againstDistrict ds n a2 a3).2.1, .int (F_X8_againstDistrict ds n a2 a3).2.2, .null]))] H := hP
    have hD : va_D A [(h_ds, .inl (k_ds, 6, .inl ds)), (h_S, .inr (11, [h_S_0, .ref h_ds, h_S_2, h_S_3, h_S_4, .int n, h_S_6, h_S_7, h_S_8, h_S_9])), ((qa_2 0), .inr (10, [.int (F_X8_againstDistrict ds n a2 a3).2.1, .int (F_X8_againstDistrict ds n a2 a3).2.2, .null]))] := hD
    have hK : va_K D vwCl [(k_ds, .int)] s := hK
    rw [if_neg (show ¬ (F_X8_againstDistrict ds n a2 a3).1 = 0 from by rw [c_3]; decide)] at hM
    refine W.eq (g2 := F0 m 86 ls [.ref (qa_2 0)]) rfl ?_
    refine W.widen (k := 1) (n := 3) (Nat.le_of_ble_eq_true rfl) (Nat.le_of_ble_eq_true rfl) ?_
    exact W.aret (v := .ref (qa_2 0)) hx hb hr (Or.inl ⟨_, rfl⟩) (Or.inr ⟨_, rfl⟩) (QG_.mk (fun n => [(qa_2 0)].getD n 0) (fun _ => 0) (fun _ => 0) [0, 1, 2] [0] hP hD hK hS (by rw [hM]; rfl) (by rw [hM]; exact Or.inr rfl) (by first | (rw [hM]; rfl) | rfl) (by decide) rfl) hS.2.2 dX8_against_86
def F_Jx29ce0_ordinal_8abf5_ad4  : Int32 := 4
set_option maxHeartbeats 4000000 in
set_option maxRecDepth 100000 in
theorem c_Jx29ce0_ordinal_8abf5_ad4 (l : Launch) (hl0 : l.stackTraces = false) (D : va_G) (ad : Nat → Nat) (sz : Nat)  : Met l yJx29ce0_ordinal_8abf5 wsJx29ce0_ordinal_8abf5 ({ frames := 0, cells := 0, slots := 0, locals := 0 }) (PR_ D ad [] [] sz [.ref (ad 4)]) (QR_ (.int (F_Jx29ce0_ordinal_8abf5_ad4)) (va_A [] sz)) 0 0 (va_A [] sz) := by
  refine Met.ofW (cc := cJx29ce0_ordinal_8abf5) (maxL := 1) (ret := (some .int)) (by decide) rfl ?_
  intro p e s m args below meth c s₁ B hml hv
  obtain ⟨rfl, hsz, hP, hK, hF⟩ := hv
  have hx := B.exec
  have hb := B.bytes
  have hr := B.returns
  have hts := atoms_spec (ws := wsJx29ce0_ordinal_8abf5) B.pre
  have hown : s.vm.findClass RJx29ce0 = some m.cls := findClass_of_methodNamed B.named
  have hlocks := B.notSynchronized
  subst hsz
  generalize hAe : va_A [] s.heap.size = A at hF ⊢
  have hA : ∀ q : Nat, s.heap.size ≤ q → A q := fun q h => by rw [← hAe]; exact Or.inr h
  obtain ⟨H, hHe⟩ : ∃ H : Heap, H = s.heap := ⟨_, rfl⟩
  have hS : va_S A s.heap H [] := by rw [hHe]; exact va_S.rf
  have hP : va_P D vwCl [] H := by rw [hHe]; exact hP
  rw [← hHe]
  have hl := lv_entry [.ref (ad 4)] (n := 1) (Nat.le_of_ble_eq_true rfl)
  rw [lg_entry_eq]
  generalize (lg_sl [.ref (ad 4)] ++ List.replicate (1 - (lg_sl [.ref (ad 4)]).length) Slot.unset).toArray = ls at hl ⊢
  have hl : lv_has ls 1 [(0, .ref (ad 4))] := hl
  have hM : F_Jx29ce0_ordinal_8abf5_ad4 = 4 := rfl
  refine lv_aload_n hx hb dJx29ce0_ordinal_8abf5_0 rfl (lv_at hl 0 rfl) ?_
  refine va_getE (E := "CanalMaps$Change") (d := "LCanalMaps$Change;") (nm := fx_nm) (F := fx_F) (ad := ad) (i := 4) (own := RJx29ce0) (q := ("java/lang/Enum", "ordinal", "I", [0, 1, 2, 3, 4, 5])) hx hb hF.1 (by decide) hS hown List.mem_cons_self (hts (.fieldLink RJx29ce0 7 "java/lang/Enum" "ordinal" "I") (List.mem_of_getElem? (i := 1) (by decide +kernel))) (fun _ h9 => h9) dJx29ce0_ordinal_8abf5_1 ?_
  refine kt_ (v := 4) (by decide +kernel) ?_
  refine W.widen (k := 0) (n := 0) (Nat.le_of_ble_eq_true rfl) (Nat.le_of_ble_eq_true rfl) ?_
  exact W.iret (v := 4) hx hb hr (QR_.mk hS (by rw [hM])) hS.2.2 dJx29ce0_ordinal_8abf5_4
def F_X8_against_ad4 (cn : Int32) : Nat × Int32 × Int32 := (if cn ≤ 0 then (if (F_X8_because 7 0).1 = 0 then (0, 0, 0) else (1, (F_X8_because 7 0).2.1, (F_X8_because 7 0).2.2)) else (0, 0, 0))
theorem R_X8_against_ad4 {cn : Int32} (h : (F_X8_against_ad4 cn).1 = 0) : 0 < cn.toInt := by
  have e0 : (0 : Int32).toInt = 0 := by decide +kernel
  unfold F_X8_against_ad4 at h
  by_cases c1 : cn ≤ 0
  · rw [if_pos c1] at h; simp [F_X8_because] at h
  have y := f_nle c1
  omega
set_option maxHeartbeats 4000000 in
set_option maxRecDepth 100000 in
theorem c_X8_against_ad4 (l : Launch) (hl0 : l.stackTraces = false) (D : va_G) (ad : Nat → Nat) (sz : Nat) (h_L : Nat) (h_S : Nat) (h_L_0 : Value) (h_L_2 : Value) (h_S_0 : Value) (h_S_1 : Value) (h_S_2 : Value) (h_S_3 : Value) (h_S_5 : Value) (h_S_6 : Value) (h_S_7 : Value) (h_S_8 : Value) (h_S_9 : Value) (cn : Int32) (a2 : Int32) (a3 : Int32) (a4 : Int32) : Met l yX8_against wsX8_against ({ frames := 3, cells := 1, slots := 3, locals := 88 }) (PC_ D ad [(h_L, .inr (8, [h_L_0, .int cn, h_L_2])), (h_S, .inr (11, [h_S_0, h_S_1, h_S_2, h_S_3, .ref h_L, h_S_5, h_S_6, h_S_7, h_S_8, h_S_9]))] [] sz [.ref h_S, .ref (ad 4), .int a2, .int a3, .int a4]) (QG_ D (fun q i => some (rfV (F_X8_against_ad4 cn).1 (q 0))) (fun q i => (F_X8_against_ad4 cn).1 = 0 ∨ (F_X8_against_ad4 cn).1 = 1) (fun q k i => ([(h_L, .inr (8, [h_L_0, .int cn, h_L_2])), (h_S, .inr (11, [h_S_0, h_S_1, h_S_2, h_S_3, .ref h_L, h_S_5, h_S_6, h_S_7, h_S_8, h_S_9]))] ++ rfW (F_X8_against_ad4 cn).1 (q 0) ((F_X8_against_ad4 cn).2.1) ((F_X8_against_ad4 cn).2.2))) (fun q k i => []) (va_A [(h_L, .inr (8, [h_L_0, .int cn, h_L_2])), (h_S, .inr (11, [h_S_0, h_S_1, h_S_2, h_S_3, .ref h_L, h_S_5, h_S_6, h_S_7, h_S_8, h_S_9]))] sz)) 1 3 (va_A [(h_L, .inr (8, [h_L_0, .int cn, h_L_2])), (h_S, .inr (11, [h_S_0, h_S_1, h_S_2, h_S_3, .ref h_L, h_S_5, h_S_6, h_S_7, h_S_8, h_S_9]))] sz) := by
  refine Met.ofW (cc := cX8_against) (maxL := 5) (ret := (some (.object "CanalMaps$Refusal"))) (by decide) rfl ?_
  intro p e s m args below meth c s₁ B hml hv
  obtain ⟨rfl, hsz, hP, hK, hD0, hF⟩ := hv
  have hx := B.exec
  have hb := B.bytes
  have hr := B.returns
  have hts := atoms_spec (ws := wsX8_against) B.pre
  have hown : s.vm.findClass RX8 = some m.cls := findClass_of_methodNamed B.named
  have hlocks := B.notSynchronized
  subst hsz
  have hD := hD0.self (sz := s.heap.size)
  generalize hAe : va_A [(h_L, .inr (8, [h_L_0, .int cn, h_L_2])), (h_S, .inr (11, [h_S_0, h_S_1, h_S_2, h_S_3, .ref h_L, h_S_5, h_S_6, h_S_7, h_S_8, h_S_9]))] s.heap.size = A at hD hF ⊢
  have hA : ∀ q : Nat, s.heap.size ≤ q → A q := fun q h => by rw [← hAe]; exact Or.inr h
  obtain ⟨H, hHe⟩ : ∃ H : Heap, H = s.heap := ⟨_, rfl⟩
  have hS : va_S A s.heap H [] := by rw [hHe]; exact va_S.rf
  have hP : va_P D vwCl [(h_L, .inr (8, [h_L_0, .int cn, h_L_2])), (h_S, .inr (11, [h_S_0, h_S_1, h_S_2, h_S_3, .ref h_L, h_S_5, h_S_6, h_S_7, h_S_8, h_S_9]))] H := by rw [hHe]; exact hP
  rw [← hHe]
  have hi_X5 : ∀ w ∈ wsX50, w ∈ wsX8_against := by decide +kernel
  have hi_X8 : ∀ w ∈ wsX80, w ∈ wsX8_against := by decide +kernel
  have hl := lv_entry [.ref h_S, .ref (ad 4), .int a2, .int a3, .int a4] (n := 5) (Nat.le_of_ble_eq_true rfl)
  rw [lg_entry_eq]
  generalize (lg_sl [.ref h_S, .ref (ad 4), .int a2, .int a3, .int a4] ++ List.replicate (5 - (lg_sl [.ref h_S, .ref (ad 4), .int a2, .int a3, .int a4]).length) Slot.unset).toArray = ls at hl ⊢
  have hl : lv_has ls 5 [(0, .ref h_S), (1, .ref (ad 4)), (2, .int a2), (3, .int a3), (4, .int a4)] := hl
  have hM : F_X8_against_ad4 cn = (if cn ≤ 0 then (if (F_X8_because 7 0).1 = 0 then (0, 0, 0) else (1, (F_X8_because 7 0).2.1, (F_X8_because 7 0).2.2)) else (0, 0, 0)) := rfl
  refine va_gets (C := "CanalMaps$1") (n := "$SwitchMap$CanalMaps$Change") (d := "[I") (own := RX8) (ref := "CanalMaps$1") (v := .ref (ad 6)) hx hb hF.2.1.1 hS hown (hts (.fieldLink RX8 113 "CanalMaps$1" "$SwitchMap$CanalMaps$Change" "[I") (List.mem_of_getElem? (i := 1) (by decide +kernel))) (fun _ h9 => h9) dX8_against_0 ?_
  refine lv_aload_n hx hb dX8_against_3 rfl (lv_at hl 1 rfl) ?_
  refine kr_ (va_runU (As := []) (rest := [.ref (ad 6)]) ⟨hx, hb, hml, hown, hts⟩ (c_Jx29ce0_ordinal_8abf5_ad4 l hl0 D ad H.size) (va_cwU 0 hts gX8_against_Jx29ce0_ordinal_8abf5_u118X2 rfl rfl rfl rfl (by decide +kernel) ⟨Nat.le_of_ble_eq_true rfl, Nat.le_of_ble_eq_true rfl⟩) ⟨PR_.blind, va_recvE hF.1 (i := 4) (by decide) hS, PR_.pre hF hK (hP.sub [] rfl) hS hA [] rfl⟩ rfl rfl hl.1 rfl (lv_room (Nat.le_of_ble_eq_true rfl)) dX8_against_4 ⟨(Nat.le_of_ble_eq_true rfl), (Nat.le_of_ble_eq_true rfl)⟩) hP hS hA (fun H locs hP hS => ?_)
  refine W.eq (g2 := F0 m 7 ls [.int 4, .ref (ad 6)]) rfl ?_
  refine va_ti (v := .int 5) hx hb hF.2.1.2 hS (vin_ (by decide +kernel)) rfl dX8_against_7 ?_
  refine lv_tableIn (tgt := 87) (off := 79) hx hb dX8_against_8 (by decide +kernel) (by decide +kernel) (by decide +kernel) (by decide) ?_
  refine lv_aload_n hx hb dX8_against_87 rfl (lv_at hl 0 rfl) ?_
  refine va_get (D := D) (ci := 11) (v := .ref h_L) (own := RX8) (C := RX8) (T := TX8) (N := 10) hx hb hts hi_X8 hown hK hP 1 rfl rfl 4 (by decide) (hts (.fieldLink RX8 24 "CanalMaps$Survey" "letters" "LCanalMaps$Letters;") (List.mem_of_getElem? (i := 3) (by decide +kernel))) (fun _ h9 => h9) rfl dX8_against_88 ?_
  refine va_getN (D := D) (ci := 8) (v := .int cn) (own := RX8) (C := RX5) (T := TX5) (N := 3) hx hb hts hi_X5 hown hK hP 0 rfl rfl 1 (by decide) (fxn_ hF (RX8, 138, "CanalMaps$Letters", "count", "I")) (fun _ h9 => h9) rfl dX8_against_91 ?_
  refine lv_if_le (tgt := 101) hx hb dX8_against_94 (by decide) (fun c_2 => ?_) (fun c_2 => ?_)
  · rw [if_pos c_2] at hM
    refine lv_bipush (v := 7) hx hb dX8_against_101 (by decide) ?_
    refine lv_iconst (v := 0) hx hb dX8_against_103 (by decide) ?_
    refine kc_ (wc := []) (wr := [(h_L, .inr (8, [h_L_0, .int cn, h_L_2])), (h_S, .inr (11, [h_S_0, h_S_1, h_S_2, h_S_3, .ref h_L, h_S_5, h_S_6, h_S_7, h_S_8, h_S_9]))]) (va_runS (As := [.int 7, .int 0]) (rest := []) ⟨hx, hb, hml, hown, hts⟩ (c_X8_because l hl0 D ad H.size 7 0) (va_cwS 2 hts gX8_against_X8_because rfl rfl rfl (by decide +kernel) ⟨Nat.le_of_ble_eq_true rfl, Nat.le_of_ble_eq_true rfl⟩) ⟨PC_.blind, PC_.pre hF hK hP hD hS hA [] [] rfl (by decide) rfl⟩ rfl rfl hl.1 rfl (lv_room (Nat.le_of_ble_eq_true rfl)) dX8_against_104 ⟨(Nat.le_of_ble_eq_true rfl), (Nat.le_of_ble_eq_true rfl)⟩) hK hP hD hS hA [] [0, 1] [] rfl rfl (by decide) (by decide) rfl (fun qa_3 ka_3 ia H locs hpo hP hD hK hS => ?_)
    rcases hpo with c_4 | c_4
    · rw [c_4] at hP hD
      rw [c_4]
      have hP : va_P D vwCl [(h_L, .inr (8, [h_L_0, .int cn, h_L_2])), (h_S, .inr (11, [h_S_0, h_S_1, h_S_2, h_S_3, .ref h_L, h_S_5, h_S_6, h_S_7, h_S_8, h_S_9]))] H := hP
      have hD : va_D A [(h_L, .inr (8, [h_L_0, .int cn, h_L_2])), (h_S, .inr (11, [h_S_0, h_S_1, h_S_2, h_S_3, .ref h_L, h_S_5, h_S_6, h_S_7, h_S_8, h_S_9]))] := hD
      have hK : va_K D vwCl [] s := hK
      rw [if_pos c_4] at hM
      refine W.eq (g2 := F0 m 107 ls [.null]) rfl ?_
      refine W.widen (k := 1) (n := 3) (Nat.le_of_ble_eq_true rfl) (Nat.le_of_ble_eq_true rfl) ?_
      exact W.aret (v := .null) hx hb hr (Or.inl ⟨_, rfl⟩) (Or.inl rfl) (QG_.mk (fun n => [0].getD n 0) (fun _ => 0) (fun _ => 0) [0, 1] [] hP hD hK hS (by rw [hM]; rfl) (by rw [hM]; exact Or.inl rfl) (by first | (rw [hM]; rfl) | rfl) (by decide) rfl) hS.2.2 dX8_against_107
    · rw [c_4] at hP hD
      rw [c_4]
      have hP : va_P D vwCl [(h_L, .inr (8, [h_L_0, .int cn, h_L_2])), (h_S, .inr (11, [h_S_0, h_S_1, h_S_2, h_S_3, .ref h_L, h_S_5, h_S_6, h_S_7, h_S_8, h_S_9])), ((qa_3 0), .inr (10, [.int (F_X8_because 7 0).2.1, .int (F_X8_because 7 0).2.2, .null]))] H := hP
      have hD : va_D A [(h_L, .inr (8, [h_L_0, .int cn, h_L_2])), (h_S, .inr (11, [h_S_0, h_S_1, h_S_2, h_S_3, .ref h_L, h_S_5, h_S_6, h_S_7, h_S_8, h_S_9])), ((qa_3 0), .inr (10, [.int (F_X8_because 7 0).2.1, .int (F_X8_because 7 0).2.2, .null]))] := hD
      have hK : va_K D vwCl [] s := hK
      rw [if_neg (show ¬ (F_X8_because 7 0).1 = 0 from by rw [c_4]; decide)] at hM
      refine W.eq (g2 := F0 m 107 ls [.ref (qa_3 0)]) rfl ?_
      refine W.widen (k := 1) (n := 3) (Nat.le_of_ble_eq_true rfl) (Nat.le_of_ble_eq_true rfl) ?_
      exact W.aret (v := .ref (qa_3 0)) hx hb hr (Or.inl ⟨_, rfl⟩) (Or.inr ⟨_, rfl⟩) (QG_.mk (fun n => [(qa_3 0)].getD n 0) (fun _ => 0) (fun _ => 0) [0, 1, 2] [] hP hD hK hS (by rw [hM]; rfl) (by rw [hM]; exact Or.inr rfl) (by first | (rw [hM]; rfl) | rfl) (by decide) rfl) hS.2.2 dX8_against_107
  · rw [if_neg c_2] at hM
    refine lv_null hx hb dX8_against_97 ?_
    refine lv_goto (tgt := 107) hx hb dX8_against_98 (by decide) ?_
    refine W.widen (k := 1) (n := 3) (Nat.le_of_ble_eq_true rfl) (Nat.le_of_ble_eq_true rfl) ?_
    exact W.aret (v := .null) hx hb hr (Or.inl ⟨_, rfl⟩) (Or.inl rfl) (QG_.mk (fun n => [0].getD n 0) (fun _ => 0) (fun _ => 0) [0, 1] [] hP hD hK hS (by rw [hM]; rfl) (by rw [hM]; exact Or.inl rfl) (by first | (rw [hM]; rfl) | rfl) (by decide) rfl) hS.2.2 dX8_against_107
def F_Jx29ce0_ordinal_8abf5_ad5  : Int32 := 5
set_option maxHeartbeats 4000000 in
set_option maxRecDepth 100000 in
theorem c_Jx29ce0_ordinal_8abf5_ad5 (l : Launch) (hl0 : l.stackTraces = false) (D : va_G) (ad : Nat → Nat) (sz : Nat)  : Met l yJx29ce0_ordinal_8abf5 wsJx29ce0_ordinal_8abf5 ({ frames := 0, cells := 0, slots := 0, locals := 0 }) (PR_ D ad [] [] sz [.ref (ad 5)]) (QR_ (.int (F_Jx29ce0_ordinal_8abf5_ad5)) (va_A [] sz)) 0 0 (va_A [] sz) := by
  refine Met.ofW (cc := cJx29ce0_ordinal_8abf5) (maxL := 1) (ret := (some .int)) (by decide) rfl ?_
  intro p e s m args below meth c s₁ B hml hv
  obtain ⟨rfl, hsz, hP, hK, hF⟩ := hv
  have hx := B.exec
  have hb := B.bytes
  have hr := B.returns
  have hts := atoms_spec (ws := wsJx29ce0_ordinal_8abf5) B.pre
  have hown : s.vm.findClass RJx29ce0 = some m.cls := findClass_of_methodNamed B.named
  have hlocks := B.notSynchronized
  subst hsz
  generalize hAe : va_A [] s.heap.size = A at hF ⊢
  have hA : ∀ q : Nat, s.heap.size ≤ q → A q := fun q h => by rw [← hAe]; exact Or.inr h
  obtain ⟨H, hHe⟩ : ∃ H : Heap, H = s.heap := ⟨_, rfl⟩
  have hS : va_S A s.heap H [] := by rw [hHe]; exact va_S.rf
  have hP : va_P D vwCl [] H := by rw [hHe]; exact hP
  rw [← hHe]
  have hl := lv_entry [.ref (ad 5)] (n := 1) (Nat.le_of_ble_eq_true rfl)
  rw [lg_entry_eq]
  generalize (lg_sl [.ref (ad 5)] ++ List.replicate (1 - (lg_sl [.ref (ad 5)]).length) Slot.unset).toArray = ls at hl ⊢
  have hl : lv_has ls 1 [(0, .ref (ad 5))] := hl
  have hM : F_Jx29ce0_ordinal_8abf5_ad5 = 5 := rfl
  refine lv_aload_n hx hb dJx29ce0_ordinal_8abf5_0 rfl (lv_at hl 0 rfl) ?_
  refine va_getE (E := "CanalMaps$Change") (d := "LCanalMaps$Change;") (nm := fx_nm) (F := fx_F) (ad := ad) (i := 5) (own := RJx29ce0) (q := ("java/lang/Enum", "ordinal", "I", [0, 1, 2, 3, 4, 5])) hx hb hF.1 (by decide) hS hown List.mem_cons_self (hts (.fieldLink RJx29ce0 7 "java/lang/Enum" "ordinal" "I") (List.mem_of_getElem? (i := 1) (by decide +kernel))) (fun _ h9 => h9) dJx29ce0_ordinal_8abf5_1 ?_
  refine kt_ (v := 5) (by decide +kernel) ?_
  refine W.widen (k := 0) (n := 0) (Nat.le_of_ble_eq_true rfl) (Nat.le_of_ble_eq_true rfl) ?_
  exact W.iret (v := 5) hx hb hr (QR_.mk hS (by rw [hM])) hS.2.2 dJx29ce0_ordinal_8abf5_4
def F_X8_against_ad5 (a2 : Int32) : Nat × Int32 × Int32 := (if a2 < 1 then (if (F_X8_because 1 0).1 = 0 then (0, 0, 0) else (1, (F_X8_because 1 0).2.1, (F_X8_because 1 0).2.2)) else (if 99 < a2 then (if (F_X8_because 1 0).1 = 0 then (0, 0, 0) else (1, (F_X8_because 1 0).2.1, (F_X8_because 1 0).2.2)) else (0, 0, 0)))
theorem R_X8_against_ad5 {a : Int32} (h : (F_X8_against_ad5 a).1 = 0) : 1 ≤ a.toInt ∧ a.toInt ≤ 99 := by
  have e1 : (1 : Int32).toInt = 1 := by decide +kernel
  have e9 : (99 : Int32).toInt = 99 := by decide +kernel
  unfold F_X8_against_ad5 at h
  by_cases c1 : a < 1
  · rw [if_pos c1] at h; simp [F_X8_because] at h
  rw [if_neg c1] at h
  by_cases c2 : 99 < a
  · rw [if_pos c2] at h; simp [F_X8_because] at h
  have y := f_nlt c1
  have z := f_nlt c2
  omega
set_option maxHeartbeats 4000000 in
set_option maxRecDepth 100000 in
theorem c_X8_against_ad5 (l : Launch) (hl0 : l.stackTraces = false) (D : va_G) (ad : Nat → Nat) (sz : Nat) (h_S : Nat) (a2 : Int32) (a3 : Int32) (a4 : Int32) : Met l yX8_against wsX8_against ({ frames := 3, cells := 1, slots := 3, locals := 88 }) (PC_ D ad [] [] sz [.ref h_S, .ref (ad 5), .int a2, .int a3, .int a4]) (QG_ D (fun q i => some (rfV (F_X8_against_ad5 a2).1 (q 0))) (fun q i => (F_X8_against_ad5 a2).1 = 0 ∨ (F_X8_against_ad5 a2).1 = 1) (fun q k i => ([] ++ rfW (F_X8_against_ad5 a2).1 (q 0) ((F_X8_against_ad5 a2).2.1) ((F_X8_against_ad5 a2).2.2))) (fun q k i => []) (va_A [] sz)) 1 3 (va_A [] sz) := by
  refine Met.ofW (cc := cX8_against) (maxL := 5) (ret := (some (.object "CanalMaps$Refusal"))) (by decide) rfl ?_
  intro p e s m args below meth c s₁ B hml hv
  obtain ⟨rfl, hsz, hP, hK, hD0, hF⟩ := hv
  have hx := B.exec
  have hb := B.bytes
  have hr := B.returns
  have hts := atoms_spec (ws := wsX8_against) B.pre
  have hown : s.vm.findClass RX8 = some m.cls := findClass_of_methodNamed B.named
  have hlocks := B.notSynchronized
  subst hsz
  have hD := hD0.self (sz := s.heap.size)
  generalize hAe : va_A [] s.heap.size = A at hD hF ⊢
  have hA : ∀ q : Nat, s.heap.size ≤ q → A q := fun q h => by rw [← hAe]; exact Or.inr h
  obtain ⟨H, hHe⟩ : ∃ H : Heap, H = s.heap := ⟨_, rfl⟩
  have hS : va_S A s.heap H [] := by rw [hHe]; exact va_S.rf
  have hP : va_P D vwCl [] H := by rw [hHe]; exact hP
  rw [← hHe]
  have hl := lv_entry [.ref h_S, .ref (ad 5), .int a2, .int a3, .int a4] (n := 5) (Nat.le_of_ble_eq_true rfl)
  rw [lg_entry_eq]
  generalize (lg_sl [.ref h_S, .ref (ad 5), .int a2, .int a3, .int a4] ++ List.replicate (5 - (lg_sl [.ref h_S, .ref (ad 5), .int a2, .int a3, .int a4]).length) Slot.unset).toArray = ls at hl ⊢
  have hl : lv_has ls 5 [(0, .ref h_S), (1, .ref (ad 5)), (2, .int a2), (3, .int a3), (4, .int a4)] := hl
  have hM : F_X8_against_ad5 a2 = (if a2 < 1 then (if (F_X8_because 1 0).1 = 0 then (0, 0, 0) else (1, (F_X8_because 1 0).2.1, (F_X8_because 1 0).2.2)) else (if 99 < a2 then (if (F_X8_because 1 0).1 = 0 then (0, 0, 0) else (1, (F_X8_because 1 0).2.1, (F_X8_because 1 0).2.2)) else (0, 0, 0))) := rfl
  refine va_gets (C := "CanalMaps$1") (n := "$SwitchMap$CanalMaps$Change") (d := "[I") (own := RX8) (ref := "CanalMaps$1") (v := .ref (ad 6)) hx hb hF.2.1.1 hS hown (hts (.fieldLink RX8 113 "CanalMaps$1" "$SwitchMap$CanalMaps$Change" "[I") (List.mem_of_getElem? (i := 1) (by decide +kernel))) (fun _ h9 => h9) dX8_against_0 ?_
  refine lv_aload_n hx hb dX8_against_3 rfl (lv_at hl 1 rfl) ?_
  refine kr_ (va_runU (As := []) (rest := [.ref (ad 6)]) ⟨hx, hb, hml, hown, hts⟩ (c_Jx29ce0_ordinal_8abf5_ad5 l hl0 D ad H.size) (va_cwU 0 hts gX8_against_Jx29ce0_ordinal_8abf5_u118X2 rfl rfl rfl rfl (by decide +kernel) ⟨Nat.le_of_ble_eq_true rfl, Nat.le_of_ble_eq_true rfl⟩) ⟨PR_.blind, va_recvE hF.1 (i := 5) (by decide) hS, PR_.pre hF hK (hP.sub [] rfl) hS hA [] rfl⟩ rfl rfl hl.1 rfl (lv_room (Nat.le_of_ble_eq_true rfl)) dX8_against_4 ⟨(Nat.le_of_ble_eq_true rfl), (Nat.le_of_ble_eq_true rfl)⟩) hP hS hA (fun H locs hP hS => ?_)
  refine W.eq (g2 := F0 m 7 ls [.int 5, .ref (ad 6)]) rfl ?_
  refine va_ti (v := .int 0) hx hb hF.2.1.2 hS (vin_ (by decide +kernel)) rfl dX8_against_7 ?_
  refine lv_tableOut (tgt := 108) hx hb dX8_against_8 (by decide +kernel) (by decide) ?_
  refine lv_iload_n hx hb dX8_against_108 rfl (lv_at hl 2 rfl) ?_
  refine lv_iconst (v := 1) hx hb dX8_against_109 (by decide) ?_
  refine lv_icmp_lt (tgt := 123) hx hb dX8_against_110 (by decide) (fun c_2 => ?_) (fun c_2 => ?_)
  · rw [if_pos c_2] at hM
    refine lv_iconst (v := 1) hx hb dX8_against_123 (by decide) ?_
    refine lv_iconst (v := 0) hx hb dX8_against_124 (by decide) ?_
    refine kc_ (wc := []) (wr := []) (va_runS (As := [.int 1, .int 0]) (rest := []) ⟨hx, hb, hml, hown, hts⟩ (c_X8_because l hl0 D ad H.size 1 0) (va_cwS 2 hts gX8_against_X8_because rfl rfl rfl (by decide +kernel) ⟨Nat.le_of_ble_eq_true rfl, Nat.le_of_ble_eq_true rfl⟩) ⟨PC_.blind, PC_.pre hF hK hP hD hS hA [] [] rfl (by decide) rfl⟩ rfl rfl hl.1 rfl (lv_room (Nat.le_of_ble_eq_true rfl)) dX8_against_125 ⟨(Nat.le_of_ble_eq_true rfl), (Nat.le_of_ble_eq_true rfl)⟩) hK hP hD hS hA [] [] [] rfl rfl (by decide) (by decide) rfl (fun qa_3 ka_3 ia H locs hpo hP hD hK hS => ?_)
    rcases hpo with c_4 | c_4
    · rw [c_4] at hP hD
      rw [c_4]
      have hP : va_P D vwCl [] H := hP
      have hD : va_D A [] := hD
      have hK : va_K D vwCl [] s := hK
      rw [if_pos c_4] at hM
      refine W.eq (g2 := F0 m 128 ls [.null]) rfl ?_
      refine W.widen (k := 1) (n := 3) (Nat.le_of_ble_eq_true rfl) (Nat.le_of_ble_eq_true rfl) ?_
      exact W.aret (v := .null) hx hb hr (Or.inl ⟨_, rfl⟩) (Or.inl rfl) (QG_.mk (fun n => [0].getD n 0) (fun _ => 0) (fun _ => 0) [] [] hP hD hK hS (by rw [hM]; rfl) (by rw [hM]; exact Or.inl rfl) (by first | (rw [hM]; rfl) | rfl) (by decide) rfl) hS.2.2 dX8_against_128
    · rw [c_4] at hP hD
      rw [c_4]
      have hP : va_P D vwCl [((qa_3 0), .inr (10, [.int (F_X8_because 1 0).2.1, .int (F_X8_because 1 0).2.2, .null]))] H := hP
      have hD : va_D A [((qa_3 0), .inr (10, [.int (F_X8_because 1 0).2.1, .int (F_X8_because 1 0).2.2, .null]))] := hD
      have hK : va_K D vwCl [] s := hK
      rw [if_neg (show ¬ (F_X8_because 1 0).1 = 0 from by rw [c_4]; decide)] at hM
      refine W.eq (g2 := F0 m 128 ls [.ref (qa_3 0)]) rfl ?_
      refine W.widen (k := 1) (n := 3) (Nat.le_of_ble_eq_true rfl) (Nat.le_of_ble_eq_true rfl) ?_
      exact W.aret (v := .ref (qa_3 0)) hx hb hr (Or.inl ⟨_, rfl⟩) (Or.inr ⟨_, rfl⟩) (QG_.mk (fun n => [(qa_3 0)].getD n 0) (fun _ => 0) (fun _ => 0) [0] [] hP hD hK hS (by rw [hM]; rfl) (by rw [hM]; exact Or.inr rfl) (by first | (rw [hM]; rfl) | rfl) (by decide) rfl) hS.2.2 dX8_against_128
  · rw [if_neg c_2] at hM
    refine lv_iload_n hx hb dX8_against_113 rfl (lv_at hl 2 rfl) ?_
    refine lv_bipush (v := 99) hx hb dX8_against_114 (by decide) ?_
    refine lv_icmp_gt (tgt := 123) hx hb dX8_against_116 (by decide) (fun c_5 => ?_) (fun c_5 => ?_)
    · rw [if_pos c_5] at hM
      refine lv_iconst (v := 1) hx hb dX8_against_123 (by decide) ?_
      refine lv_iconst (v := 0) hx hb dX8_against_124 (by decide) ?_
      refine kc_ (wc := []) (wr := []) (va_runS (As := [.int 1, .int 0]) (rest := []) ⟨hx, hb, hml, hown, hts⟩ (c_X8_because l hl0 D ad H.size 1 0) (va_cwS 2 hts gX8_against_X8_because rfl rfl rfl (by decide +kernel) ⟨Nat.le_of_ble_eq_true rfl, Nat.le_of_ble_eq_true rfl⟩) ⟨PC_.blind, PC_.pre hF hK hP hD hS hA [] [] rfl (by decide) rfl⟩ rfl rfl hl.1 rfl (lv_room (Nat.le_of_ble_eq_true rfl)) dX8_against_125 ⟨(Nat.le_of_ble_eq_true rfl), (Nat.le_of_ble_eq_true rfl)⟩) hK hP hD hS hA [] [] [] rfl rfl (by decide) (by decide) rfl (fun qa_6 ka_6 ia H locs hpo hP hD hK hS => ?_)
      rcases hpo with c_7 | c_7
      · rw [c_7] at hP hD
        rw [c_7]
        have hP : va_P D vwCl [] H := hP
        have hD : va_D A [] := hD
        have hK : va_K D vwCl [] s := hK
        rw [if_pos c_7] at hM
        refine W.eq (g2 := F0 m 128 ls [.null]) rfl ?_
        refine W.widen (k := 1) (n := 3) (Nat.le_of_ble_eq_true rfl) (Nat.le_of_ble_eq_true rfl) ?_
        exact W.aret (v := .null) hx hb hr (Or.inl ⟨_, rfl⟩) (Or.inl rfl) (QG_.mk (fun n => [0].getD n 0) (fun _ => 0) (fun _ => 0) [] [] hP hD hK hS (by rw [hM]; rfl) (by rw [hM]; exact Or.inl rfl) (by first | (rw [hM]; rfl) | rfl) (by decide) rfl) hS.2.2 dX8_against_128
      · rw [c_7] at hP hD
        rw [c_7]
        have hP : va_P D vwCl [((qa_6 0), .inr (10, [.int (F_X8_because 1 0).2.1, .int (F_X8_because 1 0).2.2, .null]))] H := hP
        have hD : va_D A [((qa_6 0), .inr (10, [.int (F_X8_because 1 0).2.1, .int (F_X8_because 1 0).2.2, .null]))] := hD
        have hK : va_K D vwCl [] s := hK
        rw [if_neg (show ¬ (F_X8_because 1 0).1 = 0 from by rw [c_7]; decide)] at hM
        refine W.eq (g2 := F0 m 128 ls [.ref (qa_6 0)]) rfl ?_
        refine W.widen (k := 1) (n := 3) (Nat.le_of_ble_eq_true rfl) (Nat.le_of_ble_eq_true rfl) ?_
        exact W.aret (v := .ref (qa_6 0)) hx hb hr (Or.inl ⟨_, rfl⟩) (Or.inr ⟨_, rfl⟩) (QG_.mk (fun n => [(qa_6 0)].getD n 0) (fun _ => 0) (fun _ => 0) [0] [] hP hD hK hS (by rw [hM]; rfl) (by rw [hM]; exact Or.inr rfl) (by first | (rw [hM]; rfl) | rfl) (by decide) rfl) hS.2.2 dX8_against_128
    · rw [if_neg c_5] at hM
      refine lv_null hx hb dX8_against_119 ?_
      refine lv_goto (tgt := 128) hx hb dX8_against_120 (by decide) ?_
      refine W.widen (k := 1) (n := 3) (Nat.le_of_ble_eq_true rfl) (Nat.le_of_ble_eq_true rfl) ?_
      exact W.aret (v := .null) hx hb hr (Or.inl ⟨_, rfl⟩) (Or.inl rfl) (QG_.mk (fun n => [0].getD n 0) (fun _ => 0) (fun _ => 0) [] [] hP hD hK hS (by rw [hM]; rfl) (by rw [hM]; exact Or.inl rfl) (by first | (rw [hM]; rfl) | rfl) (by decide) rfl) hS.2.2 dX8_against_128
