set_option maxRecDepth 100000 in
set_option maxHeartbeats 4000000 in
/-- what stands still, at the law's entry -/
theorem fx_start {s : State} {b : Nat} (hts : ∀ w ∈ lw_tbl, w.before #[Value.ref b] s = true) (hgv : (Jvm.Cond.and given_1 narrow_1).before #[Value.ref b] s = true) : ∃ ad : Nat → Nat, FX_ ad (fun q => s.heap.size ≤ q) s s.heap := by
  have hs := flat_of_before _ hgv
  have hA : ∀ a : Nat, a < s.heap.size → ¬ (fun q : Nat => s.heap.size ≤ q) a := fun a h => Nat.not_le.mpr h
  obtain ⟨a0, hE⟩ := va_Enof (args := #[Value.ref b]) (s := s) (E := "CanalMaps$Change") (d := "LCanalMaps$Change;") (nm := fx_nm) (F := fx_F) (A := fun q : Nat => s.heap.size ≤ q)
    (fun i hi => by
      rcases (show i = 0 ∨ i = 1 ∨ i = 2 ∨ i = 3 ∨ i = 4 ∨ i = 5 from by have h9 : i < 6 := hi; omega) with rfl | rfl | rfl | rfl | rfl | rfl <;> exact hts _ (by decide +kernel))
    (hts _ (by decide +kernel))
    (fun i hi => by
      rcases (show i = 0 ∨ i = 1 ∨ i = 2 ∨ i = 3 ∨ i = 4 ∨ i = 5 from by have h9 : i < 6 := hi; omega) with rfl | rfl | rfl | rfl | rfl | rfl <;> exact hs _ (by decide +kernel))
    (fun q hq i hi => by
      have hq : q = ("java/lang/Enum", "ordinal", "I", [0, 1, 2, 3, 4, 5]) := List.mem_singleton.mp hq
      subst hq
      rcases (show i = 0 ∨ i = 1 ∨ i = 2 ∨ i = 3 ∨ i = 4 ∨ i = 5 from by have h9 : i < 6 := hi; omega) with rfl | rfl | rfl | rfl | rfl | rfl <;> exact hs _ (by decide +kernel))
    (fun i j hi hj hij => by
      rcases (show i = 0 ∨ i = 1 ∨ i = 2 ∨ i = 3 ∨ i = 4 ∨ i = 5 from by have h9 : i < 6 := hi; omega) with rfl | rfl | rfl | rfl | rfl | rfl <;>
      rcases (show j = 0 ∨ j = 1 ∨ j = 2 ∨ j = 3 ∨ j = 4 ∨ j = 5 from by have h9 : j < 6 := hj; omega) with rfl | rfl | rfl | rfl | rfl | rfl <;>
      first | exact absurd rfl hij | exact Or.inl (hs _ (by decide +kernel)) | exact Or.inr (hs _ (by decide +kernel)))
    hA
  obtain ⟨t2, e2, hT2⟩ := va_Tof (args := #[Value.ref b]) (s := s) (tm := .static "CanalMaps$1" "$SwitchMap$CanalMaps$Change" "[I") (ty := .int) (N := 6) (f := fx_sw) (A := fun q : Nat => s.heap.size ≤ q) (by decide) (hs _ (by decide +kernel)) (va_eqt (hs _ (by decide +kernel)))
    (fun j hj => by
      rcases (show j = 0 ∨ j = 1 ∨ j = 2 ∨ j = 3 ∨ j = 4 ∨ j = 5 by omega) with rfl | rfl | rfl | rfl | rfl | rfl
      · exact va_eqt (z := 1) (hs _ (by decide +kernel))
      · exact va_eqt (z := 2) (hs _ (by decide +kernel))
      · exact va_eqt (z := 3) (hs _ (by decide +kernel))
      · exact va_eqt (z := 4) (hs _ (by decide +kernel))
      · exact va_eqt (z := 5) (hs _ (by decide +kernel))
      · exact va_eqt (z := 0) (hs _ (by decide +kernel)))
    hA
  obtain ⟨t3, e3, hT3⟩ := va_Tof (args := #[Value.ref b]) (s := s) (tm := .static "java/util/ArrayList" "DEFAULTCAPACITY_EMPTY_ELEMENTDATA" "[Ljava/lang/Object;") (ty := .object "java/lang/Object") (N := 0) (f := fun _ => .null) (A := fun q : Nat => s.heap.size ≤ q) (by decide) (hs _ (by decide +kernel)) (va_eqt (hs _ (by decide +kernel)))
    (fun j hj => absurd hj (Nat.not_lt_zero j)) hA
  obtain ⟨ad, h6, h7, hlt⟩ : ∃ ad : Nat → Nat, ad 6 = t2 ∧ ad 7 = t3 ∧ ∀ i, i < 6 → ad i = a0 i := ⟨fun n => if n = 6 then t2 else if n = 7 then t3 else a0 n, rfl, rfl, fun i hi => by
    have h1 : i ≠ 6 := by omega
    have h2 : i ≠ 7 := by omega
    simp [h1, h2]⟩
  refine ⟨ad, ⟨fun i hi => by rw [hlt i hi]; exact hE.1 i hi, fun i j hi hj h => hE.2 i j hi hj (by rw [hlt i hi, hlt j hj] at h; exact h)⟩, ⟨?_, by rw [h6]; exact hT2⟩, ⟨?_, by rw [h7]; exact hT3⟩, ?_, ?_, ?_, ?_, ?_, ?_, ?_, ?_, ?_, ?_, ?_⟩
  · rw [h6]; exact va_Zref (hts _ (by decide +kernel)) (hts _ (by decide +kernel)) e2 hA
  · rw [h7]; exact va_Zref (hts _ (by decide +kernel)) (hts _ (by decide +kernel)) e3 hA
  · exact va_Zof (hts _ (by decide +kernel)) (hts _ (by decide +kernel)) (va_eqi (hs _ (by decide +kernel))) hA
  · exact vx_Zqof (hts (.laysStatic "java/lang/Throwable" "UNASSIGNED_STACK" "[Ljava/lang/StackTraceElement;") (by decide +kernel)) (hts (.initialized "java/lang/Throwable") (by decide +kernel)) (hs (.isRef (.static "java/lang/Throwable" "UNASSIGNED_STACK" "[Ljava/lang/StackTraceElement;")) (by decide +kernel)) hA
  · exact vx_Zqof (hts (.laysStatic "java/lang/Throwable" "SUPPRESSED_SENTINEL" "Ljava/util/List;") (by decide +kernel)) (hts (.initialized "java/lang/Throwable") (by decide +kernel)) (hs (.isRef (.static "java/lang/Throwable" "SUPPRESSED_SENTINEL" "Ljava/util/List;")) (by decide +kernel)) hA
  · intro q hq
    have w1 : ∀ q ∈ fx_S, Cond.stringRef q.1 q.2.1 q.2.2 ∈ lw_tbl := by decide +kernel
    have w2 : ∀ q ∈ fx_S, Cond.exactly (.string q.1 q.2.1) "java/lang/String" ∈ flatC (Jvm.Cond.and given_1 narrow_1) := by decide +kernel
    obtain ⟨a, c, cell, k, q1, -⟩ := Cond.exactly_spec (hs _ (w2 q hq))
    exact ⟨a, vk_R.of (hts _ (w1 q hq)) q1⟩
  · intro q hq
    have w1 : ∀ q ∈ fx_M, Cond.methodLinkNest q.1 q.2.1 q.2.2 "CanalMaps" ∈ lw_tbl := by decide +kernel
    exact va_Nw.of rfl (hts _ (w1 q hq))
  · intro q hq
    have w1 : ∀ q ∈ fx_N, Cond.fieldLinkNest q.1 q.2.1 q.2.2.1 q.2.2.2.1 q.2.2.2.2 "CanalMaps" ∈ lw_tbl := by decide +kernel
    exact va_Nw.of rfl (hts _ (w1 q hq))
  · intro q hq
    have w1 : ∀ q ∈ fx_C, Cond.castable q.1 q.2 ∈ lw_tbl := by decide +kernel
    exact va_Nw.of rfl (hts _ (w1 q hq))
  · intro q hq
    have w1 : ∀ q ∈ fx_D, Cond.not (.castable q.1 q.2) ∈ flatC (Jvm.Cond.and given_1 narrow_1) := by decide +kernel
    exact va_Nc.of (hs _ (w1 q hq))
  · intro q hq
    have w1 : ∀ q ∈ fx_O, Cond.arrayOver (.object q) ∈ lw_tbl := by decide +kernel
    exact va_AO.of (hts _ (w1 q hq))
  · intro q hq
    have w1 : ∀ q ∈ fx_L, Cond.classLink "CanalMapsLaw" q.1 q.2 ∈ lw_tbl := by decide +kernel
    exact va_Nw.of rfl (hts _ (w1 q hq))
  · intro q hq
    have w1 : ∀ q ∈ fx_I, Cond.declares (Bundle.initS q) ∈ lw_tbl := by decide +kernel
    exact va_Nw.of rfl (hts _ (w1 q hq))
