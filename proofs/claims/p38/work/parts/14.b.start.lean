/-- what stands still, at the law's entry -/
def st_tm (i : Nat) : Term := .string ((["CanalMaps$Change", "CanalMaps$Change", "CanalMaps$Change", "CanalMaps$Change", "CanalMaps$Change", "CanalMapsLaw", "CanalMapsLaw", "CanalMapsLaw", "CanalMapsLaw", "CanalMapsLaw", "CanalMapsLaw", "CanalMapsLaw", "CanalMapsLaw"] : List String).getD i "") (([53, 59, 62, 65, 69, 279, 284, 290, 243, 251, 253, 259, 261] : List Nat).getD i 0)
theorem st_zv {args : Array Value} {s : State} {C n d : String} {v w : Value} {A : Nat → Prop} (h : va_Z C n d v A s s.heap) (hw : (Term.static C n d).eval args s none [] s = some w) : w = v := by
  obtain ⟨cf, kf, fi, f, a, cell, h1, h2, h3, h4, h5, h6, h7, h8⟩ := h
  obtain ⟨-, a', cell', ha', hc', -, hs'⟩ := Term.static_spec h1 hw
  cases h4.symm.trans ha'
  cases h5.symm.trans hc'
  exact Option.some.inj (hs'.symm.trans h7)
theorem st_of {o n d : String} {v w : Value} {t : Nat} {A : Nat → Prop} {U : State} {H : Heap} (h : va_OF o n d v t A U H) (h2 : va_OF o n d w t A U H) : v = w := by
  obtain ⟨cf, k, i, f, cell, h1, -, h3, -, h5, -⟩ := h
  obtain ⟨cf', k', i', f', cell', g1, -, g3, -, g5, -⟩ := h2
  cases h1.symm.trans g1
  cases h3.symm.trans g3
  exact Option.some.inj (h5.symm.trans g5)
theorem st_T {ty : FieldType} {t N M : Nat} {f g : Nat → Value} {A : Nat → Prop} {U : State} {H : Heap} (h : va_T ty t N f A U H) (h2 : va_T ty t M g A U H) (hN : N < 100) (hM : M < 100) : N = M ∧ ∀ j : Nat, j < N → f j = g j := by
  obtain ⟨cell, h1, -, -, h4, h5, h6, -⟩ := h
  obtain ⟨cell', g1, -, -, g4, g5, g6, -⟩ := h2
  cases h1.symm.trans g1
  have e := h5.symm.trans g5
  have e1 : N = M := by
    have e9 := congrArg Int32.toInt e
    rw [Int32.toInt_ofNat_of_lt (by omega), Int32.toInt_ofNat_of_lt (by omega)] at e9
    omega
  exact ⟨e1, fun j hj => Option.some.inj ((h6 j hj).symm.trans (g6 j (by omega)))⟩
theorem st_len (i : Nat) : fx_len.getD i 0 < 100 := by
  have key : ∀ x ∈ fx_len, x < 100 := by decide
  rw [List.getD_eq_getElem?_getD]
  cases e : fx_len[i]? with
  | none => decide
  | some x => exact key x (List.mem_of_getElem? e)
/-- the texts differ -/
theorem st_dif : ∀ i : Fin 13, ∀ j : Fin 13, fx_len.getD i.val 0 = fx_len.getD j.val 0 → (∀ k : Fin 8, k.val < fx_len.getD i.val 0 → (fx_byt.getD i.val []).getD k.val 0 = (fx_byt.getD j.val []).getD k.val 0) → i = j := by decide +kernel
theorem st_ad {n : Nat} (a0 adK adV : Nat → Nat) (t2 t3 t8 mi t10 t11 : Nat) : ∃ ad : Nat → Nat, ad 6 = t2 ∧ ad 7 = t3 ∧ ad 8 = t8 ∧ ad 9 = mi ∧ ad 10 = t10 ∧ ad 11 = t11 ∧ (∀ i, i < 6 → ad i = a0 i) ∧ (∀ i, i < 13 → ad (20 + i) = adK i) ∧ (∀ i, i < 13 → ad (40 + i) = adV i) := by
  refine ⟨fun n => if n < 6 then a0 n else if n < 12 then [t2, t3, t8, mi, t10, t11].getD (n - 6) 0 else if n < 40 then adK (n - 20) else adV (n - 40), rfl, rfl, rfl, rfl, rfl, rfl, fun i hi => if_pos hi, fun i hi => ?_, fun i hi => ?_⟩
  · show (if 20 + i < 6 then _ else if 20 + i < 12 then _ else if 20 + i < 40 then _ else _) = _
    rw [if_neg (by omega), if_neg (by omega), if_pos (by omega), Nat.add_sub_cancel_left]
  · show (if 40 + i < 6 then _ else if 40 + i < 12 then _ else if 40 + i < 40 then _ else _) = _
    rw [if_neg (by omega), if_neg (by omega), if_neg (by omega), Nat.add_sub_cancel_left]
set_option maxRecDepth 100000 in
set_option maxHeartbeats 4000000 in
theorem fx_start {s : State} {b : Nat} (hts : ∀ w ∈ lw_tbl, w.before #[Value.ref b] s = true) (hgv : (Jvm.Cond.and given_1 narrow_1).before #[Value.ref b] s = true) : ∃ ad : Nat → Nat, FX_ ad (fun q => s.heap.size ≤ q) s s.heap := by
  have hs := flat_of_before _ hgv
  have hA : ∀ a : Nat, a < s.heap.size → ¬ (fun q : Nat => s.heap.size ≤ q) a := fun a h => Nat.not_le.mpr h
  obtain ⟨a0, hE⟩ := va_Enof (args := #[Value.ref b]) (s := s) (E := "CanalMaps$Change") (d := "LCanalMaps$Change;") (nm := fx_nm) (F := fx_F) (A := fun q : Nat => s.heap.size ≤ q)
    (fun i hi => by
      rcases (show i = 0 ∨ i = 1 ∨ i = 2 ∨ i = 3 ∨ i = 4 ∨ i = 5 from by have h9 : i < 6 := hi; omega) with rfl | rfl | rfl | rfl | rfl | rfl <;> exact hts _ (by decide +kernel))
    (hts _ (by decide +kernel))
    (fun i hi => by
      rcases (show i = 0 ∨ i = 1 ∨ i = 2 ∨ i = 3 ∨ i = 4 ∨ i = 5 from by have h9 : i < 6 := hi; omega) with rfl | rfl | rfl | rfl | rfl | rfl <;> exact hs _ (by decide +kernel))
    (fun q hq i hi => by
      rcases List.mem_cons.mp hq with rfl | hq
      · rcases (show i = 0 ∨ i = 1 ∨ i = 2 ∨ i = 3 ∨ i = 4 ∨ i = 5 from by have h9 : i < 6 := hi; omega) with rfl | rfl | rfl | rfl | rfl | rfl <;> exact hs _ (by decide +kernel)
      have hq : q = ("CanalMaps$Change", "sign", "I", [43, 99, 120, 115, 108, 116]) := List.mem_singleton.mp hq
      subst hq
      rcases (show i = 0 ∨ i = 1 ∨ i = 2 ∨ i = 3 ∨ i = 4 ∨ i = 5 from by have h9 : i < 6 := hi; omega) with rfl | rfl | rfl | rfl | rfl | rfl <;> exact hs _ (by decide +kernel))
    (fun i j hi hj hij => by
      rcases (show i = 0 ∨ i = 1 ∨ i = 2 ∨ i = 3 ∨ i = 4 ∨ i = 5 from by have h9 : i < 6 := hi; omega) with rfl | rfl | rfl | rfl | rfl | rfl <;>
      rcases (show j = 0 ∨ j = 1 ∨ j = 2 ∨ j = 3 ∨ j = 4 ∨ j = 5 from by have h9 : j < 6 := hj; omega) with rfl | rfl | rfl | rfl | rfl | rfl <;>
      first | exact absurd rfl hij | exact Or.inl (hs _ (by decide +kernel)) | exact Or.inr (hs _ (by decide +kernel)))
    hA
  obtain ⟨t2, e2, hT2⟩ := va_Tof (args := #[Value.ref b]) (s := s) (tm := .static "CanalMaps$1" "$SwitchMap$CanalMaps$Change" "[I") (ty := .int) (N := 6) (f := fx_sw) (A := fun q : Nat => s.heap.size ≤ q) (by decide) (hs _ (by decide +kernel)) (va_eqt (hs _ (by decide +kernel)))
    (fun j hj => by
      rcases (show j = 0 ∨ j = 1 ∨ j = 2 ∨ j = 3 ∨ j = 4 ∨ j = 5 by omega) with rfl | rfl | rfl | rfl | rfl | rfl
      · exact va_eqt (z := 1) (hs _ (by decide +kernel))
      · exact va_eqt (z := 2) (hs _ (by decide +kernel))
      · exact va_eqt (z := 3) (hs _ (by decide +kernel))
      · exact va_eqt (z := 4) (hs _ (by decide +kernel))
      · exact va_eqt (z := 5) (hs _ (by decide +kernel))
      · exact va_eqt (z := 0) (hs _ (by decide +kernel)))
    hA
  obtain ⟨t3, e3, hT3⟩ := va_Tof (args := #[Value.ref b]) (s := s) (tm := .static "java/util/ArrayList" "DEFAULTCAPACITY_EMPTY_ELEMENTDATA" "[Ljava/lang/Object;") (ty := .object "java/lang/Object") (N := 0) (f := fun _ => .null) (A := fun q : Nat => s.heap.size ≤ q) (by decide) (hs _ (by decide +kernel)) (va_eqt (hs _ (by decide +kernel)))
    (fun j hj => absurd hj (Nat.not_lt_zero j)) hA
  obtain ⟨t8, e8, hT8⟩ := va_Tof (args := #[Value.ref b]) (s := s) (tm := .static "CanalMaps$Change" "ALL" "[LCanalMaps$Change;") (ty := .object "CanalMaps$Change") (N := 6) (f := fun j => .ref (a0 j)) (A := fun q : Nat => s.heap.size ≤ q) (by decide) (hs _ (by decide +kernel)) (va_eqt (hs _ (by decide +kernel)))
    (fun j hj => by
      have hj9 : j < fx_nm.length := hj
      have h1 : (Cond.exactly (.static "CanalMaps$Change" (fx_nm.getD j "") "LCanalMaps$Change;") "CanalMaps$Change").before #[Value.ref b] s = true := by
        rcases (show j = 0 ∨ j = 1 ∨ j = 2 ∨ j = 3 ∨ j = 4 ∨ j = 5 by omega) with rfl | rfl | rfl | rfl | rfl | rfl <;> exact hs _ (by decide +kernel)
      obtain ⟨a, c, cA, kA, q1, -⟩ := Cond.exactly_spec (args := #[Value.ref b]) (first := s) (o := none) (s := s) (idx := []) h1
      have q2 : Value.ref a = .ref (a0 j) := st_zv (hE.1 j hj9).1 q1
      rw [q2] at q1
      have h2 : (Cond.eq (.elem (.static "CanalMaps$Change" "ALL" "[LCanalMaps$Change;") (.int (Int32.ofNat j))) (.static "CanalMaps$Change" (fx_nm.getD j "") "LCanalMaps$Change;")).before #[Value.ref b] s = true := by
        rcases (show j = 0 ∨ j = 1 ∨ j = 2 ∨ j = 3 ∨ j = 4 ∨ j = 5 by omega) with rfl | rfl | rfl | rfl | rfl | rfl <;> exact hs _ (by decide +kernel)
      exact Cond.eq_refs h2 q1 rfl) hA
  obtain ⟨mi, hMi⟩ := va_Mi.of (args := #[Value.ref b]) (s := s) (C := "[Ljava/lang/Object;") (hs _ (by decide +kernel))
  have dO : ∀ j : Fin 100, (flatC (Jvm.Cond.and given_1 narrow_1))[60 + j.val]? = some (Cond.eq (.elem (.static "java/lang/Integer" "DigitOnes" "[B") (.int (Int32.ofNat j.val))) (.int (fx_ones j.val))) := by decide +kernel
  have dT : ∀ j : Fin 100, (flatC (Jvm.Cond.and given_1 narrow_1))[163 + j.val]? = some (Cond.eq (.elem (.static "java/lang/Integer" "DigitTens" "[B") (.int (Int32.ofNat j.val))) (.int (fx_tens j.val))) := by decide +kernel
  obtain ⟨t10, e10, hT10⟩ := va_Tof (args := #[Value.ref b]) (s := s) (tm := .static "java/lang/Integer" "DigitOnes" "[B") (ty := .byte) (N := 100) (f := fun j => .int (fx_ones j)) (A := fun q : Nat => s.heap.size ≤ q) (by decide) (hs _ (by decide +kernel)) (va_eqt (hs _ (by decide +kernel))) (fun j hj => va_eqt (hs _ (List.mem_of_getElem? (dO ⟨j, hj⟩)))) hA
  obtain ⟨t11, e11, hT11⟩ := va_Tof (args := #[Value.ref b]) (s := s) (tm := .static "java/lang/Integer" "DigitTens" "[B") (ty := .byte) (N := 100) (f := fun j => .int (fx_tens j)) (A := fun q : Nat => s.heap.size ≤ q) (by decide) (hs _ (by decide +kernel)) (va_eqt (hs _ (by decide +kernel))) (fun j hj => va_eqt (hs _ (List.mem_of_getElem? (dT ⟨j, hj⟩)))) hA
  have w1 : ∀ i : Fin 13, (flatC (Jvm.Cond.and given_1 narrow_1))[([1282, 1286, 1307, 1300, 1294, 1253, 1258, 1270, 1225, 1230, 1235, 1242, 1247] : List Nat).getD i.val 0]? = some (Cond.exactly (st_tm i.val) "java/lang/String") := by decide +kernel
  have w2 : ∀ i : Fin 13, (flatC (Jvm.Cond.and given_1 narrow_1))[([1283, 1287, 1308, 1301, 1295, 1254, 1259, 1271, 1226, 1231, 1236, 1243, 1248] : List Nat).getD i.val 0]? = some (Cond.eq (.field (st_tm i.val) "java/lang/String" "coder" "B") (.int 0)) := by decide +kernel
  have w3 : ∀ i : Fin 13, (flatC (Jvm.Cond.and given_1 narrow_1))[([1284, 1288, 1309, 1302, 1296, 1255, 1260, 1272, 1227, 1232, 1237, 1244, 1249] : List Nat).getD i.val 0]? = some (Cond.arrayOf (.field (st_tm i.val) "java/lang/String" "value" "[B") .byte) := by decide +kernel
  have w4 : ∀ i : Fin 13, (flatC (Jvm.Cond.and given_1 narrow_1))[([1285, 1289, 1310, 1303, 1297, 1256, 1261, 1273, 1228, 1233, 1238, 1245, 1250] : List Nat).getD i.val 0]? = some (Cond.eq (.length (.field (st_tm i.val) "java/lang/String" "value" "[B")) (.int (Int32.ofNat (fx_len.getD i.val 0)))) := by decide +kernel
  have w5 : ∀ i : Fin 13, ∀ j : Fin 8, j.val < fx_len.getD i.val 0 → (flatC (Jvm.Cond.and given_1 narrow_1))[(([[], [1290, 1291, 1292, 1293], [1311, 1312], [1304, 1305, 1306], [1298, 1299], [1257], [1262, 1263, 1264, 1265, 1266, 1267, 1268, 1269], [1274, 1275, 1276, 1277, 1278, 1279, 1280, 1281], [1229], [1234], [1239, 1240, 1241], [1246], [1251, 1252]] : List (List Nat)).getD i.val []).getD j.val 0]? = some (Cond.eq (.elem (.field (st_tm i.val) "java/lang/String" "value" "[B") (.int (Int32.ofNat j.val))) (.int ((fx_byt.getD i.val []).getD j.val 0))) := by decide +kernel
  have l8 : ∀ i : Fin 13, fx_len.getD i.val 0 ≤ 8 := by decide +kernel
  have h0 : ∀ i : Nat, ∃ q : Nat × Nat, i < 13 → (st_tm i).eval #[Value.ref b] s none [] s = some (.ref q.1) ∧ va_O "java/lang/String" q.1 (fun q : Nat => s.heap.size ≤ q) s s.heap ∧ va_OF "java/lang/String" "coder" "B" (.int 0) q.1 (fun q : Nat => s.heap.size ≤ q) s s.heap ∧ va_OF "java/lang/String" "value" "[B" (.ref q.2) q.1 (fun q : Nat => s.heap.size ≤ q) s s.heap ∧ va_T .byte q.2 (fx_len.getD i 0) (fun j => .int ((fx_byt.getD i []).getD j 0)) (fun q : Nat => s.heap.size ≤ q) s s.heap := by
    intro i
    by_cases hi : i < 13
    · obtain ⟨a, c, cA, kA, q1, q2, q3, q4, q5, q6, -⟩ := Cond.exactly_spec (args := #[Value.ref b]) (first := s) (o := none) (s := s) (idx := []) (t := st_tm i) (cls := "java/lang/String") (hs _ (List.mem_of_getElem? (w1 ⟨i, hi⟩)))
      obtain ⟨t, ht, hT⟩ := va_Tof (f := fun j => .int ((fx_byt.getD i []).getD j 0)) (A := fun q : Nat => s.heap.size ≤ q) (Nat.lt_of_lt_of_le (st_len i) (by decide)) (hs _ (List.mem_of_getElem? (w3 ⟨i, hi⟩))) (va_eqt (hs _ (List.mem_of_getElem? (w4 ⟨i, hi⟩)))) (fun j hj => va_eqt (hs _ (List.mem_of_getElem? (w5 ⟨i, hi⟩ ⟨j, Nat.lt_of_lt_of_le hj (l8 ⟨i, hi⟩)⟩ hj)))) hA
      exact ⟨(a, t), fun _ => ⟨q1, ⟨cA, q3, q5, by rw [q6]; exact q2, hA a (Array.getElem?_eq_some_iff.mp q3).1⟩, vk_OFof q1 (va_eqt (hs _ (List.mem_of_getElem? (w2 ⟨i, hi⟩)))) hA, vk_OFof q1 ht hA, hT⟩⟩
    · exact ⟨(0, 0), fun h => absurd h hi⟩
  obtain ⟨adS, hadS⟩ := Classical.axiomOfChoice h0
  obtain ⟨ad, h6, h7, h8, h9, h10, h11, hlt, hK, hV⟩ := st_ad (n := 0) a0 (fun i => (adS i).1) (fun i => (adS i).2) t2 t3 t8 mi t10 t11
  refine ⟨ad, ⟨fun i hi => by rw [hlt i hi]; exact hE.1 i hi, fun i j hi hj h => hE.2 i j hi hj (by rw [hlt i hi, hlt j hj] at h; exact h)⟩, ⟨?_, by rw [h6]; exact hT2⟩, ⟨?_, by rw [h7]; exact hT3⟩, ?_, ?_, ?_, ?_, ?_, ?_, ?_, ?_, ?_, ?_, ?_, ⟨?_, ?_⟩, ⟨?_, ?_⟩, ⟨?_, ?_⟩, ?_, ⟨⟨?_, ?_⟩, ⟨?_, ?_⟩⟩, ?_, ?_⟩
  · rw [h6]; exact va_Zref (hts _ (by decide +kernel)) (hts _ (by decide +kernel)) e2 hA
  · rw [h7]; exact va_Zref (hts _ (by decide +kernel)) (hts _ (by decide +kernel)) e3 hA
  · exact va_Zof (hts _ (by decide +kernel)) (hts _ (by decide +kernel)) (va_eqi (hs _ (by decide +kernel))) hA
  · exact vx_Zqof (hts (.laysStatic "java/lang/Throwable" "UNASSIGNED_STACK" "[Ljava/lang/StackTraceElement;") (by decide +kernel)) (hts (.initialized "java/lang/Throwable") (by decide +kernel)) (hs (.isRef (.static "java/lang/Throwable" "UNASSIGNED_STACK" "[Ljava/lang/StackTraceElement;")) (by decide +kernel)) hA
  · exact vx_Zqof (hts (.laysStatic "java/lang/Throwable" "SUPPRESSED_SENTINEL" "Ljava/util/List;") (by decide +kernel)) (hts (.initialized "java/lang/Throwable") (by decide +kernel)) (hs (.isRef (.static "java/lang/Throwable" "SUPPRESSED_SENTINEL" "Ljava/util/List;")) (by decide +kernel)) hA
  · intro q hq
    have w1 : ∀ q ∈ fx_S, Cond.stringRef q.1 q.2.1 q.2.2 ∈ lw_tbl := by decide +kernel
    have w2 : ∀ q ∈ fx_S, Cond.exactly (.string q.1 q.2.1) "java/lang/String" ∈ flatC (Jvm.Cond.and given_1 narrow_1) := by decide +kernel
    obtain ⟨a, c, cell, k, q1, -⟩ := Cond.exactly_spec (hs _ (w2 q hq))
    exact ⟨a, vk_R.of (hts _ (w1 q hq)) q1⟩
  · intro q hq
    have w1 : ∀ q ∈ fx_M, Cond.methodLinkNest q.1 q.2.1 q.2.2 "CanalMaps" ∈ lw_tbl := by decide +kernel
    exact va_Nw.of rfl (hts _ (w1 q hq))
  · intro q hq
    have w1 : ∀ q ∈ fx_N, Cond.fieldLinkNest q.1 q.2.1 q.2.2.1 q.2.2.2.1 q.2.2.2.2 "CanalMaps" ∈ lw_tbl := by decide +kernel
    exact va_Nw.of rfl (hts _ (w1 q hq))
  · intro q hq
    have w1 : ∀ q ∈ fx_C, Cond.castable q.1 q.2 ∈ lw_tbl := by decide +kernel
    exact va_Nw.of rfl (hts _ (w1 q hq))
  · intro q hq
    have w1 : ∀ q ∈ fx_D, Cond.not (.castable q.1 q.2) ∈ flatC (Jvm.Cond.and given_1 narrow_1) := by decide +kernel
    exact va_Nc.of (hs _ (w1 q hq))
  · intro q hq
    have w1 : ∀ q ∈ fx_O, Cond.arrayOver (.object q) ∈ lw_tbl := by decide +kernel
    exact va_AO.of (hts _ (w1 q hq))
  · intro q hq
    have w1 : ∀ q ∈ fx_L, Cond.classLink "CanalMapsLaw" q.1 q.2 ∈ lw_tbl := by decide +kernel
    exact va_Nw.of rfl (hts _ (w1 q hq))
  · intro q hq
    have w1 : ∀ q ∈ fx_I, Cond.declares (Bundle.initS q) ∈ lw_tbl := by decide +kernel
    exact va_Nw.of rfl (hts _ (w1 q hq))
  · rw [h8]; exact va_Zref (hts _ (by decide +kernel)) (hts _ (by decide +kernel)) e8 hA
  · rw [h8]
    obtain ⟨cell, z1, z2, z3, z4, z5, z6, z7⟩ := hT8
    exact ⟨cell, z1, z2, z3, z4, z5, fun j hj => by show cell.slots[j]? = some (.ref (ad j)); rw [hlt j hj]; exact z6 j hj, z7⟩
  · rw [h9]; exact hMi
  · exact va_Dc.of (hts _ (by decide +kernel))
  · intro i hi
    show va_O "java/lang/String" (ad (20 + i)) _ s s.heap ∧ va_OF "java/lang/String" "coder" "B" (.int 0) (ad (20 + i)) _ s s.heap ∧ va_OF "java/lang/String" "value" "[B" (.ref (ad (40 + i))) (ad (20 + i)) _ s s.heap ∧ va_T .byte (ad (40 + i)) _ _ _ s s.heap
    rw [hK i hi, hV i hi]
    exact (hadS i hi).2
  · intro i j hi hj e
    have e1 : ad (20 + i) = ad (20 + j) := e
    rw [hK i hi, hK j hj] at e1
    obtain ⟨-, -, -, i4, i5⟩ := hadS i hi
    obtain ⟨-, -, -, j4, j5⟩ := hadS j hj
    rw [e1] at i4
    have e2 : Value.ref (adS i).2 = .ref (adS j).2 := st_of i4 j4
    injection e2 with e2
    rw [e2] at i5
    obtain ⟨e3, e4⟩ := st_T i5 j5 (st_len i) (st_len j)
    exact congrArg Fin.val (st_dif ⟨i, hi⟩ ⟨j, hj⟩ e3 (fun k hk => by
      have z := e4 k.val hk
      injection z))
  · intro k hk
    have hk9 : k < fx_nm.length := hk
    have hf : fx_form.getD k 0 < 13 := by rcases (show k = 0 ∨ k = 1 ∨ k = 2 ∨ k = 3 ∨ k = 4 ∨ k = 5 by omega) with rfl | rfl | rfl | rfl | rfl | rfl <;> decide
    have h1 : (Cond.exactly (.static "CanalMaps$Change" (fx_nm.getD k "") "LCanalMaps$Change;") "CanalMaps$Change").before #[Value.ref b] s = true := by
      rcases (show k = 0 ∨ k = 1 ∨ k = 2 ∨ k = 3 ∨ k = 4 ∨ k = 5 by omega) with rfl | rfl | rfl | rfl | rfl | rfl <;> exact hs _ (by decide +kernel)
    obtain ⟨a, c, cA, kA, q1, -⟩ := Cond.exactly_spec (args := #[Value.ref b]) (first := s) (o := none) (s := s) (idx := []) h1
    have q2 : Value.ref a = .ref (a0 k) := st_zv (hE.1 k hk9).1 q1
    rw [q2] at q1
    have h2 : (Cond.eq (.field (.static "CanalMaps$Change" (fx_nm.getD k "") "LCanalMaps$Change;") "CanalMaps$Change" "form" "Ljava/lang/String;") (st_tm (fx_form.getD k 0))).before #[Value.ref b] s = true := by
      rcases (show k = 0 ∨ k = 1 ∨ k = 2 ∨ k = 3 ∨ k = 4 ∨ k = 5 by omega) with rfl | rfl | rfl | rfl | rfl | rfl <;> exact hs _ (by decide +kernel)
    rw [hK _ hf, hlt k hk]
    exact vk_OFof q1 (Cond.eq_refs h2 (hadS _ hf).1 rfl) hA
  · rw [h10]; exact va_Zref (hts _ (by decide +kernel)) (hts _ (by decide +kernel)) e10 hA
  · rw [h10]; exact hT10
  · rw [h11]; exact va_Zref (hts _ (by decide +kernel)) (hts _ (by decide +kernel)) e11 hA
  · rw [h11]; exact hT11
  · exact va_Zqof (hts _ (by decide +kernel)) (hts _ (by decide +kernel)) (hs _ (by decide +kernel)) hA
  · intro q hq
    have w1 : ∀ q ∈ fx_LS, Cond.stringRef "CanalMapsLaw" q.1 q.2.1 ∈ lw_tbl := by decide +kernel
    have w2 : ∀ q ∈ fx_LS, q.2.2 < 13 ∧ st_tm q.2.2 = Term.string "CanalMapsLaw" q.1 := by decide +kernel
    rw [hK _ (w2 q hq).1]
    exact vk_R.of (hts _ (w1 q hq)) (by rw [← (w2 q hq).2]; exact (hadS _ (w2 q hq).1).1)
