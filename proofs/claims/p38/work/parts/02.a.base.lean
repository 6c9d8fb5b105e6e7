/-! BASE: what stands still (enum constants, the switch's table, statics, links of nest mates, String constants), a method's start and end in one form, calls in one row -/
def fx_nm : List String := ["COME", "CANAL", "CLOSE", "DISTRICT", "LOSE", "PASS"]
def fx_F : List (String × String × String × List Int32) := [("java/lang/Enum", "ordinal", "I", [0, 1, 2, 3, 4, 5]), ("CanalMaps$Change", "sign", "I", [43, 99, 120, 115, 108, 116])]
def fx_sw (j : Nat) : Value := .int (([1, 2, 3, 4, 5, 0] : List Int32).getD j 0)
def fx_len : List Nat := [0, 4, 2, 3, 2, 1, 8, 8, 1, 1, 3, 1, 2]
def fx_byt : List (List Int32) := [[], [48, 49, 61, 50], [48, 49], [48, 61, 49], [48, 63], [113], [116, 49, 59, 116, 50, 59, 116, 48], [116, 51, 59, 99, 48, 57, 61, 49], [99], [61], [59, 116, 49], [116], [59, 120]]
/-- which of the texts is a constant's form -/
def fx_form : List Nat := [0, 1, 2, 3, 0, 4]
def fx_ones (j : Nat) : Int32 := nI (48 + j % 10)
def fx_tens (j : Nat) : Int32 := nI (48 + j / 10 % 10)
def fx_LS : List (Nat × String × Nat) := [(243, "c", 8), (251, "=", 9), (253, ";t1", 10), (259, "t", 11), (261, ";x", 12), (279, "q", 5), (284, "t1;t2;t0", 6), (290, "t3;c09=1", 7)]
def fx_S : List (String × Nat × String) := [("CanalMaps", 109, "refused for a reason that is kept"), ("CanalMaps", 270, "the buffer contains 60 characters"), ("CanalMaps", 286, "the text has a fault"), ("CanalMaps", 382, "what is not from 0 to 10"), ("CanalMaps", 384, "there is nothing to undo"), ("CanalMaps", 389, "there is no snapshot"), ("CanalMaps", 317, "nothing was refused, or there is no cause"), ("CanalMaps", 355, "there are no canals"), ("CanalMaps", 364, "no letter was sent"), ("CanalMaps", 395, "there is no such surveyor"), ("CanalMaps", 151, "what is not from 0 to 5"), ("CanalMaps", 160, "there is no canal"), ("CanalMaps", 399, "there is no way"), ("CanalMaps", 224, "it is the same, or the map knows no way"), ("CanalMaps", 227, "the way cannot be followed"), ("CanalMaps", 163, "what is not from 0 to 2"), ("CanalMaps", 169, "the map has no such page"), ("CanalMaps", 182, "the map tells no such cost"), ("CanalMaps", 263, "there is no such place"), ("CanalMaps", 343, "the line has no such index"), ("CanalMaps", 184, "what is not from 0 to 3"), ("CanalMaps", 190, "there is no such letter"), ("CanalMaps", 397, "there is no such district"), ("CanalMaps", 258, "there are always letters on their way")]
def fx_M : List (String × Nat × MethodName) := [("CanalMaps", 11, yX9_init), ("CanalMaps", 18, yX3_init), ("CanalMaps$Survey", 23, yX5_init)]
def fx_N : List (String × Nat × String × String × String) := [("CanalMaps", 277, "CanalMaps$CommandText", "length", "I"), ("CanalMaps", 301, "CanalMaps$CommandText", "change", "LCanalMaps$Change;"), ("CanalMaps", 202, "CanalMaps$Page", "origin", "I"), ("CanalMaps$Survey", 185, "CanalMaps$Page", "origin", "I"), ("CanalMaps", 126, "CanalMaps$Page", "serial", "I"), ("CanalMaps$Survey", 105, "CanalMaps$Page", "serial", "I"), ("CanalMaps$Survey", 76, "CanalMaps$Page", "madeAt", "I"), ("CanalMaps$Survey", 138, "CanalMaps$Letters", "count", "I"), ("CanalMaps", 249, "CanalMaps$Letters", "count", "I"), ("CanalMaps", 361, "CanalMaps$Letters", "sent", "I"), ("CanalMaps", 140, "CanalMaps$Survey", "letters", "LCanalMaps$Letters;"), ("CanalMaps", 238, "CanalMaps$Survey", "surveyors", "I"), ("CanalMaps", 369, "CanalMaps$Survey", "ticks", "I"), ("CanalMaps", 372, "CanalMaps$Survey", "arrived", "I"), ("CanalMaps", 366, "CanalMaps$Survey", "lost", "I"), ("CanalMaps", 375, "CanalMaps$Survey", "made", "I"), ("CanalMaps", 381, "CanalMaps$History", "count", "I"), ("CanalMaps", 322, "CanalMaps$Refusal", "reason", "I"), ("CanalMaps", 319, "CanalMaps$Refusal", "detail", "I"), ("CanalMaps", 314, "CanalMaps$Refusal", "cause", "LCanalMaps$Refusal;"), ("CanalMaps$CommandText", 58, "CanalMaps$Change", "form", "Ljava/lang/String;")]
def fx_C : List (String × String) := [("CanalMaps$Page", "java/lang/Object"), ("java/lang/ArithmeticException", "java/lang/ArithmeticException"), ("java/lang/IllegalArgumentException", "java/lang/IllegalArgumentException"), ("java/lang/IllegalStateException", "java/lang/IllegalStateException"), ("java/lang/IndexOutOfBoundsException", "java/lang/IndexOutOfBoundsException"), ("java/lang/UnsupportedOperationException", "java/lang/UnsupportedOperationException"), ("java/util/NoSuchElementException", "java/util/NoSuchElementException")]
def fx_D : List (String × String) := [("java/lang/UnsupportedOperationException", "java/lang/IndexOutOfBoundsException"), ("java/lang/UnsupportedOperationException", "java/lang/IllegalArgumentException"), ("java/lang/UnsupportedOperationException", "java/util/NoSuchElementException"), ("java/lang/UnsupportedOperationException", "java/lang/IllegalStateException"), ("java/lang/UnsupportedOperationException", "java/lang/ArithmeticException"), ("java/lang/IndexOutOfBoundsException", "java/lang/UnsupportedOperationException"), ("java/lang/IndexOutOfBoundsException", "java/lang/IllegalArgumentException"), ("java/lang/IndexOutOfBoundsException", "java/util/NoSuchElementException"), ("java/lang/IndexOutOfBoundsException", "java/lang/IllegalStateException"), ("java/lang/IndexOutOfBoundsException", "java/lang/ArithmeticException"), ("java/lang/IllegalArgumentException", "java/lang/UnsupportedOperationException"), ("java/lang/IllegalArgumentException", "java/lang/IndexOutOfBoundsException"), ("java/lang/IllegalArgumentException", "java/util/NoSuchElementException"), ("java/lang/IllegalArgumentException", "java/lang/IllegalStateException"), ("java/lang/IllegalArgumentException", "java/lang/ArithmeticException"), ("java/util/NoSuchElementException", "java/lang/UnsupportedOperationException"), ("java/util/NoSuchElementException", "java/lang/IndexOutOfBoundsException"), ("java/util/NoSuchElementException", "java/lang/IllegalArgumentException"), ("java/util/NoSuchElementException", "java/lang/IllegalStateException"), ("java/util/NoSuchElementException", "java/lang/ArithmeticException"), ("java/lang/IllegalStateException", "java/lang/UnsupportedOperationException"), ("java/lang/IllegalStateException", "java/lang/IndexOutOfBoundsException"), ("java/lang/IllegalStateException", "java/lang/IllegalArgumentException"), ("java/lang/IllegalStateException", "java/util/NoSuchElementException"), ("java/lang/IllegalStateException", "java/lang/ArithmeticException"), ("java/lang/ArithmeticException", "java/lang/UnsupportedOperationException"), ("java/lang/ArithmeticException", "java/lang/IndexOutOfBoundsException"), ("java/lang/ArithmeticException", "java/lang/IllegalArgumentException"), ("java/lang/ArithmeticException", "java/util/NoSuchElementException"), ("java/lang/ArithmeticException", "java/lang/IllegalStateException")]
def fx_L : List (Nat × String) := [(13, "java/lang/UnsupportedOperationException"), (95, "java/lang/IllegalStateException"), (38, "java/lang/IllegalArgumentException"), (43, "java/util/NoSuchElementException"), (115, "java/lang/ArithmeticException"), (36, "java/lang/IndexOutOfBoundsException"), (240, "java/lang/StringBuilder")]
def fx_I : List String := ["java/lang/RuntimeException", "java/lang/Exception", "java/lang/Throwable"]
def fx_O : List String := ["CanalMaps$Survey", "java/lang/Object"]
/-- all that stands still -/
def FX_ (ad : Nat → Nat) (A : Nat → Prop) (U : State) (H : Heap) : Prop :=
  va_En "CanalMaps$Change" "LCanalMaps$Change;" fx_nm fx_F ad A U H ∧
  (va_Z "CanalMaps$1" "$SwitchMap$CanalMaps$Change" "[I" (.ref (ad 6)) A U H ∧ va_T .int (ad 6) 6 fx_sw A U H) ∧
  (va_Z "java/util/ArrayList" "DEFAULTCAPACITY_EMPTY_ELEMENTDATA" "[Ljava/lang/Object;" (.ref (ad 7)) A U H ∧ va_T (.object "java/lang/Object") (ad 7) 0 (fun _ => .null) A U H) ∧
  va_Z "java/lang/String" "COMPACT_STRINGS" "Z" (.int 1) A U H ∧
  vx_Zq Bundle.tN "UNASSIGNED_STACK" Bundle.steD A U H ∧ vx_Zq Bundle.tN "SUPPRESSED_SENTINEL" Bundle.listD A U H ∧
  (∀ q ∈ fx_S, ∃ a : Nat, vk_R q.1 q.2.1 q.2.2 a U) ∧
  (∀ q ∈ fx_M, va_Nw (.methodLinkNest q.1 q.2.1 q.2.2 "CanalMaps") U) ∧
  (∀ q ∈ fx_N, va_Nw (.fieldLinkNest q.1 q.2.1 q.2.2.1 q.2.2.2.1 q.2.2.2.2 "CanalMaps") U) ∧
  (∀ q ∈ fx_C, va_Nw (.castable q.1 q.2) U) ∧
  (∀ q ∈ fx_D, va_Nc q.1 q.2 U) ∧
  (∀ q ∈ fx_O, va_AO q U) ∧
  (∀ q ∈ fx_L, va_Nw (.classLink "CanalMapsLaw" q.1 q.2) U) ∧
  (∀ q ∈ fx_I, va_Nw (.declares (Bundle.initS q)) U) ∧
  (va_Z "CanalMaps$Change" "ALL" "[LCanalMaps$Change;" (.ref (ad 8)) A U H ∧ va_T (.object "CanalMaps$Change") (ad 8) 6 (fun j => .ref (ad j)) A U H) ∧
  (va_Mi "[Ljava/lang/Object;" (ad 9) U ∧ va_Dc U) ∧
  vk_S 13 fx_len fx_byt (fun i => ad (20 + i)) (fun i => ad (40 + i)) A U H ∧
  (∀ k : Nat, k < 6 → va_OF "CanalMaps$Change" "form" "Ljava/lang/String;" (.ref (ad (20 + fx_form.getD k 0))) (ad k) A U H) ∧
  ((va_Z "java/lang/Integer" "DigitOnes" "[B" (.ref (ad 10)) A U H ∧ va_T .byte (ad 10) 100 (fun j => .int (fx_ones j)) A U H) ∧ (va_Z "java/lang/Integer" "DigitTens" "[B" (.ref (ad 11)) A U H ∧ va_T .byte (ad 11) 100 (fun j => .int (fx_tens j)) A U H)) ∧
  va_Zq "jdk/internal/util/Preconditions" "SIOOBE_FORMATTER" "Ljava/util/function/BiFunction;" A U H ∧
  (∀ q ∈ fx_LS, vk_R "CanalMapsLaw" q.1 q.2.1 (ad (20 + q.2.2)) U)
theorem FX_.warm {ad : Nat → Nat} {A B : Nat → Prop} {s U : State} {H H1 : Heap} (hW : s.WarmedH U.vm) (h : FX_ ad A s H) (hq : ∀ a : Nat, a < H.size → ¬ A a → H1[a]? = H[a]?) (hAB : ∀ q, B q → A q) : FX_ ad B U H1 := by
  obtain ⟨h1, ⟨h2, h2'⟩, ⟨h3, h3'⟩, h4, h5, h6, h7, h8, h9, h10, h11, h12, h13, h14, ⟨h15, h15'⟩, ⟨h16, h16'⟩, h17, h18, ⟨⟨h19, h19'⟩, ⟨h20, h20'⟩⟩, h21, h22⟩ := h
  have hv := hW.alike
  exact ⟨va_En.moved hv ((h1.kept hq).narrow hAB), ⟨va_Z.moved hv ((h2.kept hq).narrow hAB), va_T.moved hv ((h2'.kept hq).narrow hAB)⟩,
    ⟨va_Z.moved hv ((h3.kept hq).narrow hAB), va_T.moved hv ((h3'.kept hq).narrow hAB)⟩, va_Z.moved hv ((h4.kept hq).narrow hAB),
    vx_Zq.moved hv ((h5.kept hq).narrow hAB), vx_Zq.moved hv ((h6.kept hq).narrow hAB),
    fun q hq9 => (h7 q hq9).imp fun a ha => vk_R.warm hW ha, fun q hq9 => va_Nw.warmM hW (h8 q hq9), fun q hq9 => va_Nw.warmF hW (h9 q hq9), fun q hq9 => va_Nw.warmC hW (h10 q hq9), fun q hq9 => va_Nc.moved hv (h11 q hq9), fun q hq9 => va_AO.moved hv (h12 q hq9), fun q hq9 => word_at hW (good_of_word rfl) (h13 q hq9), fun q hq9 => va_Nw.warmD hW (h14 q hq9), ⟨va_Z.moved hv ((h15.kept hq).narrow hAB), va_T.moved hv ((h15'.kept hq).narrow hAB)⟩, ⟨va_Mi.moved hv h16, va_Dc.moved hv h16'⟩, vk_S.moved hv ((h17.kept hq).narrow hAB), fun k hk => va_OF.moved hv (((h18 k hk).kept hq).narrow hAB), ⟨⟨va_Z.moved hv ((h19.kept hq).narrow hAB), va_T.moved hv ((h19'.kept hq).narrow hAB)⟩, ⟨va_Z.moved hv ((h20.kept hq).narrow hAB), va_T.moved hv ((h20'.kept hq).narrow hAB)⟩⟩, va_Zq.moved hv ((h21.kept hq).narrow hAB), fun q hq9 => vk_R.warm hW (h22 q hq9)⟩
theorem FX_.same {ad : Nat → Nat} {A : Nat → Prop} {u U : State} {H : Heap} (hv : U.vm = u.vm) (h : FX_ ad A u H) : FX_ ad A U H := by
  obtain ⟨h1, ⟨h2, h2'⟩, ⟨h3, h3'⟩, h4, h5, h6, h7, h8, h9, h10, h11, h12, h13, h14, ⟨h15, h15'⟩, ⟨h16, h16'⟩, h17, h18, ⟨⟨h19, h19'⟩, ⟨h20, h20'⟩⟩, h21, h22⟩ := h
  have ha : u.vm.Alike U.vm := by rw [hv]; exact Vm.Alike.refl u.vm
  exact ⟨va_En.moved ha h1, ⟨va_Z.moved ha h2, va_T.moved ha h2'⟩, ⟨va_Z.moved ha h3, va_T.moved ha h3'⟩, va_Z.moved ha h4, vx_Zq.moved ha h5, vx_Zq.moved ha h6,
    fun q hq9 => (h7 q hq9).imp fun a hz => vk_R.same hv hz, fun q hq9 => va_Nw.same rfl hv.symm (h8 q hq9), fun q hq9 => va_Nw.same rfl hv.symm (h9 q hq9), fun q hq9 => va_Nw.same rfl hv.symm (h10 q hq9), fun q hq9 => va_Nc.moved ha (h11 q hq9), fun q hq9 => va_AO.moved ha (h12 q hq9), fun q hq9 => va_Nw.same rfl hv.symm (h13 q hq9), fun q hq9 => va_Nw.same rfl hv.symm (h14 q hq9), ⟨va_Z.moved ha h15, va_T.moved ha h15'⟩, ⟨va_Mi.moved ha h16, va_Dc.moved ha h16'⟩, vk_S.moved ha h17, fun k hk => va_OF.moved ha (h18 k hk), ⟨⟨va_Z.moved ha h19, va_T.moved ha h19'⟩, ⟨va_Z.moved ha h20, va_T.moved ha h20'⟩⟩, va_Zq.moved ha h21, fun q hq9 => vk_R.same hv (h22 q hq9)⟩
/-- a method's start: these arguments, a heap of sz cells that holds ws -/
def PC_ (D : va_G) (ad : Nat → Nat) (ws : va_W) (tys : List (ClassId × FieldType)) (sz : Nat) (av : List Value) : Array Value → State → Prop :=
  va_Pc av (fun U => U.heap.size = sz ∧ va_P D vwCl ws U.heap ∧ va_K D vwCl tys U ∧ va_D (fun _ => True) ws ∧ FX_ ad (va_A ws sz) U U.heap)
theorem PC_.blind {D : va_G} {ad : Nat → Nat} {ws : va_W} {tys : List (ClassId × FieldType)} {sz : Nat} {av : List Value} : FrameBlind (PC_ D ad ws tys sz av) :=
  fun a U g mk q => by
    obtain ⟨q0, q1, q2, q3, q4, q5⟩ := q
    exact ⟨q0, q1, q2, va_K.moved (u := U) (U := U.calling g mk a) (Vm.Alike.refl U.vm) q3, q4, FX_.same (u := U) (U := U.calling g mk a) rfl q5⟩
theorem PC_.pre {D : va_G} {ad : Nat → Nat} {A : Nat → Prop} {ws wc : va_W} {tys tc : List (ClassId × FieldType)} {s : State} {H : Heap} {locs : List Loc} {av : List Value} (hF : FX_ ad A s s.heap) (hK : va_K D vwCl tys s) (hP : va_P D vwCl ws H) (hD : va_D A ws) (hS : va_S A s.heap H locs) (hA : ∀ q, s.heap.size ≤ q → A q)
    (isC isT : List Nat) (hC : isC.map (fun i => ws[i]?) = wc.map some) (hn : va_nd isC = true) (hT : isT.filterMap (fun i => tys[i]?) = tc) :
    ∀ U : State, U.heap = H → s.WarmedH U.vm → PC_ D ad wc tc H.size av av.toArray U := by
  intro U hU hW
  have hFc := va_free (wc := wc) hD hS hA isC hC
  have hPc : va_P D vwCl wc H := by
    intro k q hk
    have h1 : (wc.map some)[k]? = some (some q) := by rw [List.getElem?_map, hk]; rfl
    rw [← hC, List.getElem?_map] at h1
    cases h2 : isC[k]? with
    | none => rw [h2] at h1; cases h1
    | some i =>
      rw [h2] at h1
      have h3 : ws[i]? = some q := Option.some.inj h1
      exact hP i q h3
  subst hU
  exact ⟨rfl, rfl, hPc, va_K.moved hW.alike (hK.sub isT hT), (hD.sub isC hn hC).weaken (fun _ _ _ _ => trivial), FX_.warm hW hF hS.2.1 hFc⟩
/-- where a method has come to its end: the answer and the cells by the made addresses q, classes k of arrays, numbers i -/
def WB_ (D : va_G) (w1 : (Nat → Nat) → (Nat → ClassId) → (Nat → Int32) → va_W) (t1 : (Nat → Nat) → (Nat → ClassId) → (Nat → Int32) → List (ClassId × FieldType)) (A : Nat → Prop) (q : Nat → Nat) (k : Nat → ClassId) (i : Nat → Int32) (t : State) : Prop :=
  va_P D vwCl (w1 q k i) t.heap ∧ va_K D vwCl (t1 q k i) t ∧ va_D A (w1 q k i)
def QG_ (D : va_G) (rv : (Nat → Nat) → (Nat → Int32) → Option Value) (po : (Nat → Nat) → (Nat → Int32) → Prop) (w1 : (Nat → Nat) → (Nat → ClassId) → (Nat → Int32) → va_W) (t1 : (Nat → Nat) → (Nat → ClassId) → (Nat → Int32) → List (ClassId × FieldType)) (A : Nat → Prop) : Array Value → State → Outcome → State → Prop :=
  fun _ st oc t => (∃ (q : Nat → Nat) (k : Nat → ClassId) (i : Nat → Int32), oc = .returned (rv q i) ∧ po q i ∧ WB_ D w1 t1 A q k i t) ∧ va_F A st t
theorem QG_.mk {D : va_G} {rv : (Nat → Nat) → (Nat → Int32) → Option Value} {po : (Nat → Nat) → (Nat → Int32) → Prop} {w1 : (Nat → Nat) → (Nat → ClassId) → (Nat → Int32) → va_W} {t1 : (Nat → Nat) → (Nat → ClassId) → (Nat → Int32) → List (ClassId × FieldType)} {A : Nat → Prop} {a : Array Value} {s : State} {H : Heap} {locs : List Loc} {ws : va_W} {tys : List (ClassId × FieldType)} {ov : Option Value} (q : Nat → Nat) (k : Nat → ClassId) (i : Nat → Int32) (isC isT : List Nat)
    (hP : va_P D vwCl ws H) (hD : va_D A ws) (hK : va_K D vwCl tys s) (hS : va_S A s.heap H locs) (hv : ov = rv q i) (hp : po q i) (hC : isC.map (fun i => ws[i]?) = (w1 q k i).map some) (hn : va_nd isC = true) (hT : isT.filterMap (fun i => tys[i]?) = t1 q k i) :
    ∀ t : State, t.heap = H → s.WarmedH t.vm → QG_ D rv po w1 t1 A a s (.returned ov) t := by
  intro t ht hW
  have hPc : va_P D vwCl (w1 q k i) H := by
    intro j z hj
    have h1 : ((w1 q k i).map some)[j]? = some (some z) := by rw [List.getElem?_map, hj]; rfl
    rw [← hC, List.getElem?_map] at h1
    cases h2 : isC[j]? with
    | none => rw [h2] at h1; cases h1
    | some n =>
      rw [h2] at h1
      have h3 : ws[n]? = some z := Option.some.inj h1
      exact hP n z h3
  exact ⟨⟨q, k, i, by rw [hv], hp, by rw [ht]; exact hPc, va_K.moved hW.alike (hK.sub isT hT), hD.sub isC hn hC⟩, hS.F ht⟩
section KCC
variable {p : Program} {l : Launch} {e : Env} {R : Room} {s : State} {m : MethodId} {args : Array Value} {below : List Frame} {meth : Method} {c : Code} {H : Heap} {locs : List Loc} {cells slots : Nat} {Q : State → Prop}
variable {pc : Nat} {ls : Array Slot} {rest st0 : List Value} {a : Array Value} {A : Nat → Prop} {mc ms : Nat} {D : va_G} {ws wc wr : va_W} {tys tr : List (ClassId × FieldType)}
/-- behind a call that returns -/
theorem kc_ {rv : (Nat → Nat) → (Nat → Int32) → Option Value} {po : (Nat → Nat) → (Nat → Int32) → Prop} {w1 : (Nat → Nat) → (Nat → ClassId) → (Nat → Int32) → va_W} {t1 : (Nat → Nat) → (Nat → ClassId) → (Nat → Int32) → List (ClassId × FieldType)}
    (hr : va_Run p l e R s m args below meth c H locs cells slots mc ms (F0 m pc ls st0) rest (QG_ D rv po w1 t1 (va_A wc H.size) a) (va_A wc H.size))
    (hK : va_K D vwCl tys s) (hP : va_P D vwCl ws H) (hD : va_D A ws) (hS : va_S A s.heap H locs) (hA : ∀ q, s.heap.size ≤ q → A q)
    (isC isR isT : List Nat) (hC : isC.map (fun i => ws[i]?) = wc.map some) (hR : isR.map (fun i => ws[i]?) = wr.map some) (hn : va_nd isR = true) (hdis : ∀ i ∈ isR, i ∉ isC) (hT : isT.filterMap (fun i => tys[i]?) = tr)
    (kk : ∀ (q : Nat → Nat) (k : Nat → ClassId) (i : Nat → Int32) (H1 : Heap) (locs1 : List Loc), po q i → va_P D vwCl (wr ++ w1 q k i) H1 → va_D A (wr ++ w1 q k i) → va_K D vwCl (tr ++ t1 q k i) s → va_S A s.heap H1 locs1 →
      W p l e R s m args below meth c H1 locs1 (cells + mc) (slots + ms) Q (F0 m (pc + 3) ls ((rv q i).toList ++ rest))) : W p l e R s m args below meth c H locs cells slots Q (F0 m pc ls st0) := by
  intro T hT0 X
  obtain ⟨v, st₀, t, T', L, h0, X', hL, e1, e2, ⟨⟨q, k, i, hv, hp, hP1, hK1, hD1⟩, hz, hk⟩, st⟩ := hr T hT0 X
  have hFc := va_free (wc := wc) hD hS hA isC hC
  have hv : v = rv q i := by injection hv
  subst hv
  rw [h0] at hz hk
  have hvm : s.vm.Alike t.vm := by rw [← e2]; exact X'.warmed.alike
  have hj := va_join (wr := wr) (w1 := w1 q k i) hP hD isC isR hC hR hn hdis hk hFc hP1 hD1
  obtain ⟨t2, a1, b1⟩ := kk q k i T'.heap (locs ++ L) hp (by rw [e1]; exact hj.1) hj.2 ((hK.sub isT hT).app (va_K.moved hvm.symm hK1))
    ⟨Nat.le_trans hS.1 (by rw [e1]; exact hz), fun x h1 h2 => by rw [e1, hk x (Nat.lt_of_lt_of_le h1 hS.1) (fun z => h2 (hFc x z))]; exact hS.2.1 x h1 h2, fun x hx => by
      rcases List.mem_append.mp hx with h | h
      · exact hS.2.2 x h
      · exact hFc _ (hL x h)⟩ T' rfl X'
  exact ⟨t2, st t2 a1, b1⟩
/-- what a method that throws an E alone owes -/
def XT_ (E0 : String) (A : Nat → Prop) : String → State → State → Prop := fun E st t => E = E0 ∧ va_F A st t
def QN_ : Array Value → State → Outcome → State → Prop := fun _ _ _ _ => False
/-- behind a call that throws -/
theorem kx_ {E0 : String} (hr : vx_Run p l e R s m args below meth c H locs cells slots mc ms (F0 m pc ls st0) rest (QN_ a) (XT_ E0 (va_A wc H.size)) (va_A wc H.size))
    (hD : va_D A ws) (hS : va_S A s.heap H locs) (hA : ∀ q, s.heap.size ≤ q → A q) (isC : List Nat) (hC : isC.map (fun i => ws[i]?) = wc.map some)
    (kx : ∀ (ce : Cell) (q9 : Addr) (H1 : Heap) (locs1 : List Loc), va_S A s.heap H1 locs1 → H1[q9]? = some ce → ce.vm = .none → s.vm.findClass E0 = some ce.cls →
      vx_W p l e R s m args below meth c H1 locs1 (cells + mc) (slots + ms) Q (F0 m pc ls rest) q9) : W p l e R s m args below meth c H locs cells slots Q (F0 m pc ls st0) := by
  intro T hT0 X
  have hFc := va_free (wc := wc) hD hS hA isC hC
  rcases hr T hT0 X with ⟨v, st₀, t, T', L, h0, X', hL, e1, e2, hq, st⟩ | ⟨q, st₀, t, T', L, E, ce, h0, X', hL, e1, e2, ⟨hE, hz, hk⟩, hce, hvm, hcl, st⟩
  · exact absurd hq id
  · subst hE
    rw [h0] at hz hk
    obtain ⟨t2, a1, b1⟩ := kx ce q T'.heap (locs ++ L)
      ⟨Nat.le_trans hS.1 (by rw [e1]; exact hz), fun x h1 h2 => by rw [e1, hk x (Nat.lt_of_lt_of_le h1 hS.1) (fun z => h2 (hFc x z))]; exact hS.2.1 x h1 h2, fun x hx => by
        rcases List.mem_append.mp hx with h | h
        · exact hS.2.2 x h
        · exact hFc _ (hL x h)⟩ (by rw [e1]; exact hce) hvm hcl T' rfl X'
    exact ⟨t2, st.trans a1, b1⟩
end KCC
/-- the same contents, written again -/
theorem up_same {f : Nat → Int32} {k : Nat} {x : Int32} (h : f k = x) : upd f k x = f := by
  funext j
  by_cases hj : j = k
  · subst hj
    rw [pk_us, h]
  · rw [pk_un hj]

/-- what stands still, asked for by name -/
theorem fxs_ {ad : Nat → Nat} {A : Nat → Prop} {s : State} {H : Heap} (h : FX_ ad A s H) (o : String) (i : Nat) (t : String) (hq : (o, i, t) ∈ fx_S := by decide +kernel) : ∃ a : Nat, vk_R o i t a s := h.2.2.2.2.2.2.1 _ hq
theorem fxm_ {ad : Nat → Nat} {A : Nat → Prop} {s : State} {H : Heap} (h : FX_ ad A s H) (q : String × Nat × MethodName) (hq : q ∈ fx_M := by decide +kernel) : va_Nw (.methodLinkNest q.1 q.2.1 q.2.2 "CanalMaps") s := h.2.2.2.2.2.2.2.1 _ hq
theorem fxn_ {ad : Nat → Nat} {A : Nat → Prop} {s : State} {H : Heap} {args : Array Value} (h : FX_ ad A s H) (q : String × Nat × String × String × String) (hq : q ∈ fx_N := by decide +kernel) : (Cond.fieldLinkNest q.1 q.2.1 q.2.2.1 q.2.2.2.1 q.2.2.2.2 "CanalMaps").before args s = true := va_Nw.use rfl (h.2.2.2.2.2.2.2.2.1 _ hq)
theorem fxk_ {ad : Nat → Nat} {A : Nat → Prop} {s : State} {H : Heap} {args : Array Value} (h : FX_ ad A s H) (C T : String) (hq : (C, T) ∈ fx_C := by decide +kernel) : (Cond.castable C T).before args s = true := va_Nw.use rfl (h.2.2.2.2.2.2.2.2.2.1 _ hq)
theorem fxc_ {ad : Nat → Nat} {A : Nat → Prop} {s : State} {H : Heap} (h : FX_ ad A s H) (C T : String) (hq : (C, T) ∈ fx_C := by decide +kernel) : ∀ comp c0 : ClassId, s.vm.findClass T = some comp → s.vm.findClass C = some c0 → s.vm.assignable c0 comp = true := by
  intro comp c0 h1 h2
  obtain ⟨c, t, w1, w2, w3⟩ := Cond.castable_spec (fxk_ (args := #[]) h C T hq)
  cases w1.symm.trans h2
  cases w2.symm.trans h1
  exact w3
theorem fxd_ {ad : Nat → Nat} {A : Nat → Prop} {s : State} {H : Heap} (h : FX_ ad A s H) (C T : String) (hq : (C, T) ∈ fx_D := by decide +kernel) : va_Nc C T s := h.2.2.2.2.2.2.2.2.2.2.1 _ hq
theorem fxo_ {ad : Nat → Nat} {A : Nat → Prop} {s : State} {H : Heap} (h : FX_ ad A s H) (C : String) (hq : C ∈ fx_O := by decide +kernel) : va_AO C s := h.2.2.2.2.2.2.2.2.2.2.2.1 _ hq
theorem fxl_ {ad : Nat → Nat} {A : Nat → Prop} {s : State} {H : Heap} {args : Array Value} (h : FX_ ad A s H) (q : Nat × String) (hq : q ∈ fx_L := by decide +kernel) : (Cond.classLink "CanalMapsLaw" q.1 q.2).before args s = true := va_Nw.use rfl (h.2.2.2.2.2.2.2.2.2.2.2.2.1 _ hq)
theorem fxi_ {ad : Nat → Nat} {A : Nat → Prop} {s : State} {H : Heap} {args : Array Value} (h : FX_ ad A s H) (q : String) (hq : q ∈ fx_I := by decide +kernel) : (Cond.declares (Bundle.initS q)).before args s = true := va_Nw.use rfl (h.2.2.2.2.2.2.2.2.2.2.2.2.2.1 _ hq)
theorem fxall_ {ad : Nat → Nat} {A : Nat → Prop} {s : State} {H : Heap} (h : FX_ ad A s H) : va_Z "CanalMaps$Change" "ALL" "[LCanalMaps$Change;" (.ref (ad 8)) A s H ∧ va_T (.object "CanalMaps$Change") (ad 8) 6 (fun j => .ref (ad j)) A s H := h.2.2.2.2.2.2.2.2.2.2.2.2.2.2.1
theorem fxmi_ {ad : Nat → Nat} {A : Nat → Prop} {s : State} {H : Heap} (h : FX_ ad A s H) : va_Mi "[Ljava/lang/Object;" (ad 9) s ∧ va_Dc s := h.2.2.2.2.2.2.2.2.2.2.2.2.2.2.2.1
theorem fxst_ {ad : Nat → Nat} {A : Nat → Prop} {s : State} {H : Heap} (h : FX_ ad A s H) : vk_S 13 fx_len fx_byt (fun i => ad (20 + i)) (fun i => ad (40 + i)) A s H := h.2.2.2.2.2.2.2.2.2.2.2.2.2.2.2.2.1
theorem fxfo_ {ad : Nat → Nat} {A : Nat → Prop} {s : State} {H : Heap} (h : FX_ ad A s H) : ∀ k : Nat, k < 6 → va_OF "CanalMaps$Change" "form" "Ljava/lang/String;" (.ref (ad (20 + fx_form.getD k 0))) (ad k) A s H := h.2.2.2.2.2.2.2.2.2.2.2.2.2.2.2.2.2.1
theorem fxdg_ {ad : Nat → Nat} {A : Nat → Prop} {s : State} {H : Heap} (h : FX_ ad A s H) : (va_Z "java/lang/Integer" "DigitOnes" "[B" (.ref (ad 10)) A s H ∧ va_T .byte (ad 10) 100 (fun j => .int (fx_ones j)) A s H) ∧ (va_Z "java/lang/Integer" "DigitTens" "[B" (.ref (ad 11)) A s H ∧ va_T .byte (ad 11) 100 (fun j => .int (fx_tens j)) A s H) := h.2.2.2.2.2.2.2.2.2.2.2.2.2.2.2.2.2.2.1
theorem fxsi_ {ad : Nat → Nat} {A : Nat → Prop} {s : State} {H : Heap} (h : FX_ ad A s H) : va_Zq "jdk/internal/util/Preconditions" "SIOOBE_FORMATTER" "Ljava/util/function/BiFunction;" A s H := h.2.2.2.2.2.2.2.2.2.2.2.2.2.2.2.2.2.2.2.1
theorem fxls_ {ad : Nat → Nat} {A : Nat → Prop} {s : State} {H : Heap} (h : FX_ ad A s H) (q : Nat × String × Nat) (hq : q ∈ fx_LS := by decide +kernel) : vk_R "CanalMapsLaw" q.1 q.2.1 (ad (20 + q.2.2)) s := h.2.2.2.2.2.2.2.2.2.2.2.2.2.2.2.2.2.2.2.2 q hq
theorem fx_nar (j : Nat) : vp_nar .byte (fx_ones j) = fx_ones j ∧ vp_nar .byte (fx_tens j) = fx_tens j := by
  have key : ∀ i : Fin 10, vp_nar .byte (nI (48 + i.val)) = nI (48 + i.val) := by decide +kernel
  exact ⟨key ⟨j % 10, Nat.mod_lt _ (by decide)⟩, key ⟨j / 10 % 10, Nat.mod_lt _ (by decide)⟩⟩
theorem n8_n8 (x : Int32) : vp_nar .byte (vp_nar .byte x) = vp_nar .byte x := pk_vb x
theorem n8_fit (x : Int32) : fits .byte (.int (vp_nar .byte x)) = true := pk_fb x
/-- the words of a throw that aren't good ones -/
theorem fxb_ {ad : Nat → Nat} {A : Nat → Prop} {s : State} {H : Heap} {args : Array Value} (h : FX_ ad A s H) (E : String) (hq : (E, E) ∈ fx_C := by decide +kernel) : ∀ w ∈ [Cond.castable E E, .declares (Bundle.initS "java/lang/RuntimeException"), .declares (Bundle.initS "java/lang/Exception"), .declares (Bundle.initS "java/lang/Throwable")], w.before args s = true :=
  vx_c (fxk_ h E E hq) (vx_c (fxi_ h _) (vx_c (fxi_ h _) (vx_c (fxi_ h _) vx_n)))
theorem fxw_ {args : Array Value} {s : State} {Ts L B : List Cond} (hts : ∀ w ∈ Ts, w.before args s = true) (hm : ∀ w ∈ L.filter goodWord, w ∈ Ts) (h2 : ∀ w ∈ L.filter (fun w => !goodWord w), w ∈ B) (h3 : ∀ w ∈ B, w.before args s = true) : ∀ w ∈ L, w.before args s = true :=
  vx_hat (fun w hw => hts w (hm w hw)) h2 h3
theorem xt_ {A : Nat → Prop} {s t : State} {H : Heap} {locs : List Loc} (hS : va_S A s.heap H locs) (hz : H.size ≤ t.heap.size) (hq : ∀ q : Nat, q < H.size → t.heap[q]? = H[q]?) : va_F A s t :=
  ⟨Nat.le_trans hS.1 hz, fun q h1 h2 => by rw [hq q (Nat.lt_of_lt_of_le h1 hS.1)]; exact hS.2.1 q h1 h2⟩
theorem vin_ {i : Int32} {n : Nat} (h : decide (¬ (i < 0 ∨ n ≤ i.toNatClampNeg)) = true) : vp_in i n := by
  show ¬ (i < 0 ∨ n ≤ i.toNatClampNeg)
  exact of_decide_eq_true h
def ci_ (x : Int32) : Int32 := (x.toUInt32 % 65536).toInt32
theorem ci_nar (x : Int32) : vp_nar .char (ci_ x) = ci_ x := pk_vc x
theorem ci_narr (x : Int32) : narrow .char (.int (ci_ x)) = .int (ci_ x) := pk_nc x
theorem cp0_ (f g : Nat → Int32) (sp dp : Nat) (n : Nat) (h : n = 0) : va_cpy f g sp dp n = g := by
  subst h
  funext j
  exact pk_cpy_out (by omega)
theorem cpz_ (sp dp n : Nat) : va_cpy (fun _ => (0 : Int32)) (fun _ => (0 : Int32)) sp dp n = (fun _ => (0 : Int32)) := by
  funext j
  by_cases h : dp ≤ j ∧ j < dp + n
  · exact pk_cpy_in h.1 h.2
  · exact pk_cpy_out (by omega)
section KROW
variable {p : Program} {l : Launch} {e : Env} {R : Room} {s : State} {m : MethodId} {args : Array Value} {below : List Frame} {meth : Method} {c : Code} {H : Heap} {locs : List Loc} {cells slots : Nat} {Q : State → Prop}
variable {cc : ByteArray} {pc : Nat} {ls : Array Slot} {rest : List Value} {D : va_G} {cl : List vw_C} {A : Nat → Prop} {a : Nat} {tys : List (ClassId × FieldType)} {ws : va_W} {H0 : Heap}
theorem kt_ {x v : Int32} (h : x = v) (k : W p l e R s m args below meth c H locs cells slots Q (F0 m pc ls (.int v :: rest))) : W p l e R s m args below meth c H locs cells slots Q (F0 m pc ls (.int x :: rest)) := h ▸ k
theorem ktl_ {x v : Int64} (h : x = v) (k : W p l e R s m args below meth c H locs cells slots Q (F0 m pc ls (.long v :: rest))) : W p l e R s m args below meth c H locs cells slots Q (F0 m pc ls (.long x :: rest)) := h ▸ k
theorem ka_iast (hexec : p.tables.exec = Jvm.exec) (hb : c.code = cc) (hK : va_K D cl tys s) (hP : va_P D cl ws H) (hD : va_D A ws) (hS : va_S A H0 H locs) (q0 t0 : Nat) {cA : ClassId} {n : Nat} {f g : Nat → Int32} (ha : ws[q0]? = some (a, .inl (cA, n, .inl f))) (ht : tys[t0]? = some (cA, .int)) {i : Int32} {x : Int32} (hin : vp_in i n) (hg : upd f i.toNatClampNeg x = g) (hdg : decode cc pc = .ok (.iastore, 1))
    (kk : ∀ (H1 : Heap) (locs1 : List Loc), va_P D cl (ws.set q0 (a, .inl (cA, n, .inl g))) H1 → va_D A (ws.set q0 (a, .inl (cA, n, .inl g))) → va_S A H0 H1 locs1 → W p l e R s m args below meth c H1 locs1 cells slots Q (F0 m (pc + 1) ls rest)) : W p l e R s m args below meth c H locs cells slots Q (F0 m pc ls (.int x :: .int i :: .ref a :: rest)) := by
  subst hg
  exact va_iast hexec hb hK hP hD hS q0 t0 ha ht hin hdg kk
theorem ka_cast (hexec : p.tables.exec = Jvm.exec) (hb : c.code = cc) (hK : va_K D cl tys s) (hP : va_P D cl ws H) (hD : va_D A ws) (hS : va_S A H0 H locs) (q0 t0 : Nat) {cA : ClassId} {n : Nat} {f g : Nat → Int32} (ha : ws[q0]? = some (a, .inl (cA, n, .inl f))) (ht : tys[t0]? = some (cA, .char)) {i : Int32} {x : Int32} (hin : vp_in i n) (hx : vp_nar .char x = x) (hg : upd f i.toNatClampNeg x = g) (hdg : decode cc pc = .ok (.castore, 1))
    (kk : ∀ (H1 : Heap) (locs1 : List Loc), va_P D cl (ws.set q0 (a, .inl (cA, n, .inl g))) H1 → va_D A (ws.set q0 (a, .inl (cA, n, .inl g))) → va_S A H0 H1 locs1 → W p l e R s m args below meth c H1 locs1 cells slots Q (F0 m (pc + 1) ls rest)) : W p l e R s m args below meth c H locs cells slots Q (F0 m pc ls (.int x :: .int i :: .ref a :: rest)) := by
  subst hg
  exact va_cast hexec hb hK hP hD hS q0 t0 ha ht hin hdg (by rw [hx]; exact kk)
theorem ka_bast (hexec : p.tables.exec = Jvm.exec) (hb : c.code = cc) (hK : va_K D cl tys s) (hP : va_P D cl ws H) (hD : va_D A ws) (hS : va_S A H0 H locs) (q0 t0 : Nat) {cA : ClassId} {n : Nat} {f g : Nat → Int32} (ha : ws[q0]? = some (a, .inl (cA, n, .inl f))) (ht : tys[t0]? = some (cA, .byte)) {i : Int32} {x : Int32} (hin : vp_in i n) (hg : upd f i.toNatClampNeg (vp_nar .byte x) = g) (hdg : decode cc pc = .ok (.bastore, 1))
    (kk : ∀ (H1 : Heap) (locs1 : List Loc), va_P D cl (ws.set q0 (a, .inl (cA, n, .inl g))) H1 → va_D A (ws.set q0 (a, .inl (cA, n, .inl g))) → va_S A H0 H1 locs1 → W p l e R s m args below meth c H1 locs1 cells slots Q (F0 m (pc + 1) ls rest)) : W p l e R s m args below meth c H locs cells slots Q (F0 m pc ls (.int x :: .int i :: .ref a :: rest)) := by
  subst hg
  exact va_bast hexec hb hK hP hD hS q0 t0 ha ht hin hdg kk
theorem ka_last (hexec : p.tables.exec = Jvm.exec) (hb : c.code = cc) (hK : va_K D cl tys s) (hP : va_P D cl ws H) (hD : va_D A ws) (hS : va_S A H0 H locs) (q0 t0 : Nat) {cA : ClassId} {n : Nat} {f g : Nat → Int64} (ha : ws[q0]? = some (a, .inl (cA, n, .inr (.inl f)))) (ht : tys[t0]? = some (cA, .long)) {i : Int32} {x : Int64} (hin : vp_in i n) (hg : vp_updL f i.toNatClampNeg x = g) (hdg : decode cc pc = .ok (.lastore, 1))
    (kk : ∀ (H1 : Heap) (locs1 : List Loc), va_P D cl (ws.set q0 (a, .inl (cA, n, .inr (.inl g)))) H1 → va_D A (ws.set q0 (a, .inl (cA, n, .inr (.inl g)))) → va_S A H0 H1 locs1 → W p l e R s m args below meth c H1 locs1 cells slots Q (F0 m (pc + 1) ls rest)) : W p l e R s m args below meth c H locs cells slots Q (F0 m pc ls (.long x :: .int i :: .ref a :: rest)) := by
  subst hg
  exact va_last hexec hb hK hP hD hS q0 t0 ha ht hin hdg kk
theorem ka_astq (hexec : p.tables.exec = Jvm.exec) (hb : c.code = cc) (hK : va_K D cl tys s) (hP : va_P D cl ws H) (hD : va_D A ws) (hS : va_S A H0 H locs) (q0 t0 qk ci : Nat) {cA : ClassId} {r : vw_C} {n v : Nat} {vs : List Value} {f g : Nat → Option Nat} (ha : ws[q0]? = some (a, .inl (cA, n, .inr (.inr (.inr (.inr f)))))) (ht : tys[t0]? = some (cA, .object r.1)) (hv : ws[qk]? = some (v, .inr (ci, vs))) (hc : cl[ci]? = some r) {i : Int32} (hin : vp_in i n) (hg : va_up f i.toNatClampNeg (some v) = g) (hdg : decode cc pc = .ok (.aastore, 1))
    (kk : ∀ (H1 : Heap) (locs1 : List Loc), va_P D cl (ws.set q0 (a, .inl (cA, n, .inr (.inr (.inr (.inr g)))))) H1 → va_D A (ws.set q0 (a, .inl (cA, n, .inr (.inr (.inr (.inr g)))))) → va_S A H0 H1 locs1 → W p l e R s m args below meth c H1 locs1 cells slots Q (F0 m (pc + 1) ls rest)) : W p l e R s m args below meth c H locs cells slots Q (F0 m pc ls (.ref v :: .int i :: .ref a :: rest)) := by
  subst hg
  exact va_astq hexec hb hK hP hD hS q0 t0 qk ci ha ht hv hc hin hdg kk
theorem ka_astqM (hexec : p.tables.exec = Jvm.exec) (hb : c.code = cc) (hK : va_K D cl tys s) (hP : va_P D cl ws H) (hD : va_D A ws) (hS : va_S A H0 H locs) (q0 t0 : Nat) {E : String} {cA : ClassId} {n v : Nat} {f g : Nat → Option Nat} (ha : ws[q0]? = some (a, .inl (cA, n, .inr (.inr (.inr (.inr f)))))) (ht : tys[t0]? = some (cA, .object E)) (hr : va_Any E s H v) {i : Int32} (hin : vp_in i n) (hg : va_up f i.toNatClampNeg (some v) = g) (hdg : decode cc pc = .ok (.aastore, 1))
    (kk : ∀ (H1 : Heap) (locs1 : List Loc), va_P D cl (ws.set q0 (a, .inl (cA, n, .inr (.inr (.inr (.inr g)))))) H1 → va_D A (ws.set q0 (a, .inl (cA, n, .inr (.inr (.inr (.inr g)))))) → va_S A H0 H1 locs1 → W p l e R s m args below meth c H1 locs1 cells slots Q (F0 m (pc + 1) ls rest)) : W p l e R s m args below meth c H locs cells slots Q (F0 m pc ls (.ref v :: .int i :: .ref a :: rest)) := by
  subst hg
  exact va_astqM hexec hb hK hP hD hS q0 t0 ha ht hr hin hdg kk
theorem ka_copyi (hexec : p.tables.exec = Jvm.exec) (hb : c.code = cc) (hml : c.maxLocals = ls.size) {own : String} {index : Nat} (hown : s.vm.findClass own = some m.cls) (hlink : (Cond.methodLink own index arraycopyName).before args s = true) (hnat : (Cond.native arraycopyName).before args s = true) (hstat : (Cond.static arraycopyName).before args s = true) (hini : (Cond.initialized "java/lang/System").before args s = true)
    (hK : va_K D cl tys s) (hP : va_P D cl ws H) (hD : va_D A ws) (hS : va_S A H0 H locs) (q0 q1 t0 t1 : Nat) {a0 : Nat} {c0 c1 : ClassId} {n0 n1 : Nat} {f g g9 : Nat → Int32} {ty : FieldType} (ha0 : ws[q0]? = some (a0, .inl (c0, n0, .inl f))) (ha1 : ws[q1]? = some (a, .inl (c1, n1, .inl g))) (ht0 : tys[t0]? = some (c0, ty)) (ht1 : tys[t1]? = some (c1, ty)) (hprim : refKind ty = false) {sp dp n : Int32} (h1 : ¬ sp < 0) (h2 : ¬ dp < 0) (h3 : ¬ n < 0) (h4 : sp.toNatClampNeg + n.toNatClampNeg ≤ n0) (h5 : dp.toNatClampNeg + n.toNatClampNeg ≤ n1) (hfit : ∀ i, i < n.toNatClampNeg → fits ty (.int (f (sp.toNatClampNeg + i))) = true)
    (hg : va_cpy f g sp.toNatClampNeg dp.toNatClampNeg n.toNatClampNeg = g9) (hframes : 1 ≤ R.frames) (hlocals : (rest.map fun v => v.category).sum + (nativeFrameWords "java/lang/System" "arraycopy" 5 + 11) ≤ R.locals) (hdg : decode cc pc = .ok (.invokestatic index, 3))
    (kk : ∀ (H1 : Heap) (locs1 : List Loc), va_P D cl (ws.set q1 (a, .inl (c1, n1, .inl g9))) H1 → va_D A (ws.set q1 (a, .inl (c1, n1, .inl g9))) → va_S A H0 H1 locs1 → W p l e R s m args below meth c H1 locs1 cells slots Q (F0 m (pc + 3) ls rest)) : W p l e R s m args below meth c H locs cells slots Q (F0 m pc ls (.int n :: .int dp :: .ref a :: .int sp :: .ref a0 :: rest)) := by
  subst hg
  exact va_copyi hexec hb hml hown hlink hnat hstat hini hK hP hD hS q0 q1 t0 t1 ha0 ha1 ht0 ht1 hprim h1 h2 h3 h4 h5 hfit hframes hlocals hdg kk
theorem kcopyq_ (hexec : p.tables.exec = Jvm.exec) (hb : c.code = cc) (hml : c.maxLocals = ls.size) {own : String} {index : Nat} (hown : s.vm.findClass own = some m.cls) (hlink : (Cond.methodLink own index arraycopyName).before args s = true) (hnat : (Cond.native arraycopyName).before args s = true) (hstat : (Cond.static arraycopyName).before args s = true) (hini : (Cond.initialized "java/lang/System").before args s = true)
    (hK : va_K D cl tys s) (hP : va_P D cl ws H) (hD : va_D A ws) (hS : va_S A H0 H locs) (q0 q1 t0 t1 : Nat) {a0 : Nat} {c0 c1 : ClassId} {n0 n1 : Nat} {f g g9 : Nat → Option Nat} {E0 E1 C : String} (ha0 : ws[q0]? = some (a0, .inl (c0, n0, .inr (.inr (.inr (.inr f)))))) (ha1 : ws[q1]? = some (a, .inl (c1, n1, .inr (.inr (.inr (.inr g)))))) (ht0 : tys[t0]? = some (c0, .object E0)) (ht1 : tys[t1]? = some (c1, .object E1))
    {sp dp n : Int32} (h1 : ¬ sp < 0) (h2 : ¬ dp < 0) (h3 : ¬ n < 0) (h4 : sp.toNatClampNeg + n.toNatClampNeg ≤ n0) (h5 : dp.toNatClampNeg + n.toNatClampNeg ≤ n1) (hel : ∀ i : Nat, i < n.toNatClampNeg → ∀ y : Nat, f (sp.toNatClampNeg + i) = some y → ∃ cellV : Cell, H[y]? = some cellV ∧ cellV.vm.isStatics = false ∧ s.vm.findClass C = some cellV.cls) (hasg : ∀ comp c0 : ClassId, s.vm.findClass E1 = some comp → s.vm.findClass C = some c0 → s.vm.assignable c0 comp = true)
    (hg : va_cpy f g sp.toNatClampNeg dp.toNatClampNeg n.toNatClampNeg = g9) (hframes : 1 ≤ R.frames) (hlocals : (rest.map fun v => v.category).sum + (nativeFrameWords "java/lang/System" "arraycopy" 5 + 11) ≤ R.locals) (hdg : decode cc pc = .ok (.invokestatic index, 3))
    (kk : ∀ (H1 : Heap) (locs1 : List Loc), va_P D cl (ws.set q1 (a, .inl (c1, n1, .inr (.inr (.inr (.inr g9)))))) H1 → va_D A (ws.set q1 (a, .inl (c1, n1, .inr (.inr (.inr (.inr g9)))))) → va_S A H0 H1 locs1 → W p l e R s m args below meth c H1 locs1 cells slots Q (F0 m (pc + 3) ls rest)) : W p l e R s m args below meth c H locs cells slots Q (F0 m pc ls (.int n :: .int dp :: .ref a :: .int sp :: .ref a0 :: rest)) := by
  subst hg
  exact va_copyq hexec hb hml hown hlink hnat hstat hini hK hP hD hS q0 q1 t0 t1 ha0 ha1 ht0 ht1 h1 h2 h3 h4 h5 hel hasg hframes hlocals hdg kk
/-- a loop that is entered at most N times more than i says -/
theorem kloop_ {pc : Nat} {st : List Value} (I : Nat → Heap → List Loc → Array Slot → Prop) (N : Nat)
    (hs : ∀ (i : Nat) (H : Heap) (locs : List Loc) (ls : Array Slot), i ≤ N → I i H locs ls → (∀ (H1 : Heap) (locs1 : List Loc) (ls1 : Array Slot), i < N → I (i + 1) H1 locs1 ls1 → W p l e R s m args below meth c H1 locs1 cells slots Q (F0 m pc ls1 st)) → W p l e R s m args below meth c H locs cells slots Q (F0 m pc ls st))
    {H : Heap} {locs : List Loc} {ls : Array Slot} (h0 : I 0 H locs ls) : W p l e R s m args below meth c H locs cells slots Q (F0 m pc ls st) := by
  have key : ∀ (n i : Nat) (H : Heap) (locs : List Loc) (ls : Array Slot), i ≤ N → N < i + n → I i H locs ls → W p l e R s m args below meth c H locs cells slots Q (F0 m pc ls st) := by
    intro n
    induction n with
    | zero => intro i H locs ls h1 h2; exact absurd h2 (by omega)
    | succ n ih => intro i H locs ls h1 h2 hI; exact hs i H locs ls h1 hI (fun H1 locs1 ls1 hlt hI1 => ih (i + 1) H1 locs1 ls1 (by omega) (by omega) hI1)
  exact key (N + 1) 0 H locs ls (Nat.zero_le _) (by omega) h0
end KROW
theorem up_up {f : Nat → Int32} {k j : Nat} {x y : Int32} (h : j = k) : upd (upd f k x) j y = upd f k y := by
  subst h
  funext i
  by_cases hi : i = j
  · subst hi
    rw [pk_us, pk_us]
  · rw [pk_un hi, pk_un hi, pk_un hi]
theorem f_lt {a b : Int32} (h : a < b) : a.toInt < b.toInt := Int32.lt_iff_toInt_lt.mp h
theorem f_le {a b : Int32} (h : a ≤ b) : a.toInt ≤ b.toInt := Int32.le_iff_toInt_le.mp h
theorem f_eq {a b : Int32} (h : a = b) : a.toInt = b.toInt := by rw [h]
theorem f_nlt {a b : Int32} (h : ¬ a < b) : b.toInt ≤ a.toInt := Int.not_lt.mp (fun z => h (Int32.lt_iff_toInt_lt.mpr z))
theorem f_nle {a b : Int32} (h : ¬ a ≤ b) : b.toInt < a.toInt := Int.not_le.mp (fun z => h (Int32.le_iff_toInt_le.mpr z))
theorem kl_lt {i N : Nat} (h : ¬ nI N ≤ nI i) (hi : i ≤ N) : i < N := Nat.lt_of_le_of_ne hi (fun e => h (by rw [e]; exact Int32.le_refl _))
theorem kl_lt2 {i N : Nat} {x : Int32} (h : ¬ x ≤ nI i) (hx : x ≤ nI N) (hi : i ≤ N) : i < N := Nat.lt_of_le_of_ne hi (fun e => h (by rw [e]; exact hx))
theorem tb11_ (x : Int32) : x = 0 ∨ x = 1 ∨ x = 2 ∨ x = 3 ∨ x = 4 ∨ x = 5 ∨ x = 6 ∨ x = 7 ∨ x = 8 ∨ x = 9 ∨ x = 10 ∨ (x.toInt < 0 ∨ 10 < x.toInt) := by
  have k : ∀ n : Nat, n < 2 ^ 31 → x.toInt = (n : Int) → x = nI n := fun n hn h => Int32.toInt_inj.mp (h.trans (nI_toInt hn).symm)
  by_cases h : x.toInt < 0 ∨ 10 < x.toInt
  · simp [h]
  · rcases (show x.toInt = 0 ∨ x.toInt = 1 ∨ x.toInt = 2 ∨ x.toInt = 3 ∨ x.toInt = 4 ∨ x.toInt = 5 ∨ x.toInt = 6 ∨ x.toInt = 7 ∨ x.toInt = 8 ∨ x.toInt = 9 ∨ x.toInt = 10 by omega) with q | q | q | q | q | q | q | q | q | q | q
    · exact Or.inl (k 0 (by decide) q)
    · exact Or.inr (Or.inl (k 1 (by decide) q))
    · exact Or.inr (Or.inr (Or.inl (k 2 (by decide) q)))
    · exact Or.inr (Or.inr (Or.inr (Or.inl (k 3 (by decide) q))))
    · exact Or.inr (Or.inr (Or.inr (Or.inr (Or.inl (k 4 (by decide) q)))))
    · exact Or.inr (Or.inr (Or.inr (Or.inr (Or.inr (Or.inl (k 5 (by decide) q))))))
    · exact Or.inr (Or.inr (Or.inr (Or.inr (Or.inr (Or.inr (Or.inl (k 6 (by decide) q)))))))
    · exact Or.inr (Or.inr (Or.inr (Or.inr (Or.inr (Or.inr (Or.inr (Or.inl (k 7 (by decide) q))))))))
    · exact Or.inr (Or.inr (Or.inr (Or.inr (Or.inr (Or.inr (Or.inr (Or.inr (Or.inl (k 8 (by decide) q)))))))))
    · exact Or.inr (Or.inr (Or.inr (Or.inr (Or.inr (Or.inr (Or.inr (Or.inr (Or.inr (Or.inl (k 9 (by decide) q))))))))))
    · exact Or.inr (Or.inr (Or.inr (Or.inr (Or.inr (Or.inr (Or.inr (Or.inr (Or.inr (Or.inr (Or.inl (k 10 (by decide) q)))))))))))

