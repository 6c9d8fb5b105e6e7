set_option maxRecDepth 20000 in
theorem wsL_law_x0 : ∀ w ∈ (vx_atS RX10 272 "java/lang/IllegalStateException" ["java/lang/RuntimeException", "java/lang/Exception"]).filter goodWord, w ∈ lw_tbl := by decide +kernel
set_option maxRecDepth 20000 in
theorem wsL_law_x1 : ∀ w ∈ (vx_atM "java/lang/ArrayIndexOutOfBoundsException" ["java/lang/IndexOutOfBoundsException", "java/lang/RuntimeException", "java/lang/Exception"]).filter goodWord, w ∈ lw_tbl := by decide +kernel
set_option maxRecDepth 20000 in
theorem wsL_law_x2 : ∀ w ∈ (vx_atS RX10 111 "java/lang/UnsupportedOperationException" ["java/lang/RuntimeException", "java/lang/Exception"]).filter goodWord, w ∈ lw_tbl := by decide +kernel
set_option maxRecDepth 20000 in
theorem wsL_law_x3 : ∀ w ∈ (vx_atS RX10 153 "java/lang/IllegalArgumentException" ["java/lang/RuntimeException", "java/lang/Exception"]).filter goodWord, w ∈ lw_tbl := by decide +kernel
set_option maxRecDepth 20000 in
theorem wsL_law_x4 : ∀ w ∈ (vx_atE RX10 162).filter goodWord, w ∈ lw_tbl := by decide +kernel
set_option maxRecDepth 20000 in
theorem wsL_law_x5 : ∀ w ∈ (vx_atM "java/lang/ArithmeticException" ["java/lang/RuntimeException", "java/lang/Exception"]).filter goodWord, w ∈ lw_tbl := by decide +kernel
set_option maxRecDepth 20000 in
theorem wsL_law_x6 : ∀ w ∈ (vx_atS RX10 357 "java/lang/ArithmeticException" ["java/lang/RuntimeException", "java/lang/Exception"]).filter goodWord, w ∈ lw_tbl := by decide +kernel
set_option maxRecDepth 20000 in
theorem wsL_law_x7 : ∀ w ∈ (vx_atS RX10 345 "java/lang/IndexOutOfBoundsException" ["java/lang/RuntimeException", "java/lang/Exception"]).filter goodWord, w ∈ lw_tbl := by decide +kernel
def tk_ : Nat → List Cond
  | 0 => k2_sels lw_privs
  | 1 => tables_1_1
  | 2 => tables_1_2
  | 3 => tables_1_3
  | 4 => tables_1_4
  | 5 => tables_1_5
  | 6 => tables_1_6
  | 7 => tables_1_7
  | _ => []
theorem tkm0_ {w : Cond} : ∀ k : Nat, w ∈ tk_ k → w ∈ lw_tbl := by
  intro k h
  unfold lw_tbl tables_1
  simp only [List.mem_append]
  match k, h with
  | 0, h => exact Or.inl h
  | 1, h => exact Or.inr (Or.inl h)
  | 2, h => exact Or.inr (Or.inr (Or.inl h))
  | 3, h => exact Or.inr (Or.inr (Or.inr (Or.inl h)))
  | 4, h => exact Or.inr (Or.inr (Or.inr (Or.inr (Or.inl h))))
  | 5, h => exact Or.inr (Or.inr (Or.inr (Or.inr (Or.inr (Or.inl h)))))
  | 6, h => exact Or.inr (Or.inr (Or.inr (Or.inr (Or.inr (Or.inr (Or.inl h))))))
  | 7, h => exact Or.inr (Or.inr (Or.inr (Or.inr (Or.inr (Or.inr (Or.inr (h)))))))
  | _ + 8, h => exact nomatch h
/-- a private method, on an object of a subclass -/
theorem sel_sub {C : String} {x z y : MethodName} {s : State} {args : Array Value} (hy : y.cls ≠ "java/lang/invoke/MethodHandle" ∧ y.cls ≠ "java/lang/invoke/VarHandle") (hzy : z.cls = y.cls)
    (hsel : (Cond.selects C x z).before args s = true) (hpriv : (Cond.privateMethod y).before args s = true) (hinst : (Cond.instanceMethod y).before args s = true) :
    (Cond.selects C y y).before args s = true := by
  obtain ⟨c, r, m, hc, hr, hm, hs, k, hk, hni⟩ := Cond.selects_spec hsel
  obtain ⟨mk, methM, hnamed, hmethM, -, -⟩ := Cond.instanceMethod_spec hinst
  have hfound : s.methodFound? y.cls y.name y.desc = some mk := State.methodFound?_of_named hnamed hy
  have h1 : s.vm.findClass y.cls = some mk.cls := findClass_of_methodNamed hnamed
  have h2 : s.vm.findClass z.cls = some m.cls := findClass_of_methodNamed hm
  have hcls : m.cls = mk.cls := Option.some.inj (h2.symm.trans (by rw [hzy]; exact h1))
  have hsel : selectMethod {} s.vm c mk = .method mk := selectMethod_private hmethM (Cond.privateMethod_at hpriv mk methM hnamed hmethM)
  rw [hcls] at hk
  simp only [Cond.before, Cond.holds, Cond.value, hc, hfound, hnamed, hsel, hk]
  simp; exact hni
def lw_sel2 : List Cond := [.selects RJ4 yJ5_ensureCapacityInternal_d00df yJ5_ensureCapacityInternal_d00df, .selects RJ4 yJ5_newCapacity_0f7a4 yJ5_newCapacity_0f7a4, .selects RJ4 yJ5_inflate_da8c8 yJ5_inflate_da8c8, .selects RJ4 yJ5_appendNull_278bc yJ5_appendNull_278bc, .selects RJ4 yJ5_putStringAt_47b60 yJ5_putStringAt_47b60, .selects RJ4 yJ5_inflateIfNeededFor_a7421 yJ5_inflateIfNeededFor_a7421]
def lw_tbl3 : List Cond := lw_tbl ++ lw_sel2
theorem lw_hts3 {args : Array Value} {s : State} (hts : ∀ w ∈ lw_tbl, w.before args s = true) : ∀ w ∈ lw_tbl3, w.before args s = true := by
  intro w hw
  rcases List.mem_append.mp hw with h | h
  · exact hts w h
  · have hs : (Cond.selects "java/lang/StringBuilder" ⟨"java/lang/AbstractStringBuilder", "getValue", "()[B"⟩ ⟨"java/lang/AbstractStringBuilder", "getValue", "()[B"⟩).before args s = true := hts _ (tkm0_ 6 (List.mem_of_getElem? (i := 166) (by decide +kernel)))
    rcases List.mem_cons.mp h with rfl | h
    · exact sel_sub (z := ⟨"java/lang/AbstractStringBuilder", "getValue", "()[B"⟩) (by decide +kernel) rfl hs (hts _ (tkm0_ 6 (List.mem_of_getElem? (i := 54) (by decide +kernel)))) (hts _ (tkm0_ 6 (List.mem_of_getElem? (i := 55) (by decide +kernel))))
    rcases List.mem_cons.mp h with rfl | h
    · exact sel_sub (z := ⟨"java/lang/AbstractStringBuilder", "getValue", "()[B"⟩) (by decide +kernel) rfl hs (hts _ (tkm0_ 6 (List.mem_of_getElem? (i := 58) (by decide +kernel)))) (hts _ (tkm0_ 6 (List.mem_of_getElem? (i := 59) (by decide +kernel))))
    rcases List.mem_cons.mp h with rfl | h
    · exact sel_sub (z := ⟨"java/lang/AbstractStringBuilder", "getValue", "()[B"⟩) (by decide +kernel) rfl hs (hts _ (tkm0_ 6 (List.mem_of_getElem? (i := 102) (by decide +kernel)))) (hts _ (tkm0_ 6 (List.mem_of_getElem? (i := 103) (by decide +kernel))))
    rcases List.mem_cons.mp h with rfl | h
    · exact sel_sub (z := ⟨"java/lang/AbstractStringBuilder", "getValue", "()[B"⟩) (by decide +kernel) rfl hs (hts _ (tkm0_ 6 (List.mem_of_getElem? (i := 50) (by decide +kernel)))) (hts _ (tkm0_ 6 (List.mem_of_getElem? (i := 51) (by decide +kernel))))
    rcases List.mem_cons.mp h with rfl | h
    · exact sel_sub (z := ⟨"java/lang/AbstractStringBuilder", "getValue", "()[B"⟩) (by decide +kernel) rfl hs (hts _ (tkm0_ 6 (List.mem_of_getElem? (i := 93) (by decide +kernel)))) (hts _ (tkm0_ 6 (List.mem_of_getElem? (i := 94) (by decide +kernel))))
    rcases List.mem_cons.mp h with rfl | h
    · exact sel_sub (z := ⟨"java/lang/AbstractStringBuilder", "getValue", "()[B"⟩) (by decide +kernel) rfl hs (hts _ (tkm0_ 6 (List.mem_of_getElem? (i := 97) (by decide +kernel)))) (hts _ (tkm0_ 6 (List.mem_of_getElem? (i := 98) (by decide +kernel))))
    exact absurd h List.not_mem_nil
def tk3_ : Nat → List Cond
  | 8 => lw_sel2
  | k => tk_ k
theorem tkm_ {w : Cond} (k : Nat) (h : w ∈ tk3_ k) : w ∈ lw_tbl3 := by
  unfold tk3_ at h
  split at h
  · exact List.mem_append_right _ h
  · exact List.mem_append_left _ (tkm0_ _ h)
theorem goodIn_t (ws : List Cond) (ps : List (Nat × Nat)) (hp : ws = ps.filterMap (fun q => (tk3_ q.1)[q.2]?)) (h : ws.all goodWord = true) : GoodIn lw_tbl3 ws := by
  intro w hw
  have h1 := List.all_eq_true.mp h w hw
  rw [hp] at hw
  obtain ⟨q, -, hi⟩ := List.mem_filterMap.mp hw
  have hm : w ∈ tk3_ q.1 := by first | exact List.mem_of_getElem? hi | exact List.getElem?_mem hi
  exact ⟨tkm_ _ hm, good_of_word h1⟩
theorem wsL_law_x0_g : GoodIn lw_tbl3 ((vx_atS RX10 272 "java/lang/IllegalStateException" ["java/lang/RuntimeException", "java/lang/Exception"]).filter goodWord) := goodIn_sub (fun w h => List.mem_append_left _ (wsL_law_x0 w h)) (by decide +kernel)
theorem wsL_law_x1_g : GoodIn lw_tbl3 ((vx_atM "java/lang/ArrayIndexOutOfBoundsException" ["java/lang/IndexOutOfBoundsException", "java/lang/RuntimeException", "java/lang/Exception"]).filter goodWord) := goodIn_sub (fun w h => List.mem_append_left _ (wsL_law_x1 w h)) (by decide +kernel)
theorem wsL_law_x2_g : GoodIn lw_tbl3 ((vx_atS RX10 111 "java/lang/UnsupportedOperationException" ["java/lang/RuntimeException", "java/lang/Exception"]).filter goodWord) := goodIn_sub (fun w h => List.mem_append_left _ (wsL_law_x2 w h)) (by decide +kernel)
theorem wsL_law_x3_g : GoodIn lw_tbl3 ((vx_atS RX10 153 "java/lang/IllegalArgumentException" ["java/lang/RuntimeException", "java/lang/Exception"]).filter goodWord) := goodIn_sub (fun w h => List.mem_append_left _ (wsL_law_x3 w h)) (by decide +kernel)
theorem wsL_law_x4_g : GoodIn lw_tbl3 ((vx_atE RX10 162).filter goodWord) := goodIn_sub (fun w h => List.mem_append_left _ (wsL_law_x4 w h)) (by decide +kernel)
theorem wsL_law_x5_g : GoodIn lw_tbl3 ((vx_atM "java/lang/ArithmeticException" ["java/lang/RuntimeException", "java/lang/Exception"]).filter goodWord) := goodIn_sub (fun w h => List.mem_append_left _ (wsL_law_x5 w h)) (by decide +kernel)
theorem wsL_law_x6_g : GoodIn lw_tbl3 ((vx_atS RX10 357 "java/lang/ArithmeticException" ["java/lang/RuntimeException", "java/lang/Exception"]).filter goodWord) := goodIn_sub (fun w h => List.mem_append_left _ (wsL_law_x6 w h)) (by decide +kernel)
theorem wsL_law_x7_g : GoodIn lw_tbl3 ((vx_atS RX10 345 "java/lang/IndexOutOfBoundsException" ["java/lang/RuntimeException", "java/lang/Exception"]).filter goodWord) := goodIn_sub (fun w h => List.mem_append_left _ (wsL_law_x7 w h)) (by decide +kernel)
set_option maxRecDepth 20000 in
theorem inJ0 : ∀ w ∈ wsJ00, w ∈ lw_tbl3 := fun w h => (goodIn_t wsJ00 [(5, 5), (5, 7), (6, 206), (6, 208)] (by decide +kernel) (by decide +kernel) w h).1
set_option maxRecDepth 20000 in
theorem inJ4 : ∀ w ∈ wsJ40, w ∈ lw_tbl3 := fun w h => (goodIn_t wsJ40 [(1, 114), (1, 116), (1, 118), (1, 120)] (by decide +kernel) (by decide +kernel) w h).1
set_option maxRecDepth 20000 in
theorem inJx00060 : ∀ w ∈ wsJx000600, w ∈ lw_tbl3 := fun w h => (goodIn_t wsJx000600 [(5, 61), (5, 62), (5, 63), (5, 64), (5, 65), (5, 66)] (by decide +kernel) (by decide +kernel) w h).1
set_option maxRecDepth 20000 in
theorem inJx7c733 : ∀ w ∈ wsJx7c7330, w ∈ lw_tbl3 := fun w h => (goodIn_t wsJx7c7330 [(6, 212), (6, 213), (6, 214), (6, 215), (6, 216), (6, 217)] (by decide +kernel) (by decide +kernel) w h).1
set_option maxRecDepth 20000 in
theorem inJx4a65c : ∀ w ∈ wsJx4a65c0, w ∈ lw_tbl3 := fun w h => (goodIn_t wsJx4a65c0 [(1, 153), (1, 149), (1, 151)] (by decide +kernel) (by decide +kernel) w h).1
set_option maxRecDepth 20000 in
theorem inX1 : ∀ w ∈ wsX10, w ∈ lw_tbl3 := fun w h => (goodIn_t wsX10 [(2, 10), (2, 12)] (by decide +kernel) (by decide +kernel) w h).1
set_option maxRecDepth 20000 in
theorem inX3 : ∀ w ∈ wsX30, w ∈ lw_tbl3 := fun w h => (goodIn_t wsX30 [(1, 79), (1, 81), (1, 83), (1, 85), (1, 87)] (by decide +kernel) (by decide +kernel) w h).1
set_option maxRecDepth 20000 in
theorem inX4 : ∀ w ∈ wsX40, w ∈ lw_tbl3 := fun w h => (goodIn_t wsX40 [(2, 90), (2, 92), (2, 94)] (by decide +kernel) (by decide +kernel) w h).1
set_option maxRecDepth 20000 in
theorem inX5 : ∀ w ∈ wsX50, w ∈ lw_tbl3 := fun w h => (goodIn_t wsX50 [(2, 33), (2, 35), (2, 37)] (by decide +kernel) (by decide +kernel) w h).1
set_option maxRecDepth 20000 in
theorem inX6 : ∀ w ∈ wsX60, w ∈ lw_tbl3 := fun w h => (goodIn_t wsX60 [(1, 171), (1, 173), (1, 175), (1, 177)] (by decide +kernel) (by decide +kernel) w h).1
set_option maxRecDepth 20000 in
theorem inX7 : ∀ w ∈ wsX70, w ∈ lw_tbl3 := fun w h => (goodIn_t wsX70 [(2, 189), (2, 191), (2, 193)] (by decide +kernel) (by decide +kernel) w h).1
set_option maxRecDepth 20000 in
theorem inX8 : ∀ w ∈ wsX80, w ∈ lw_tbl3 := fun w h => (goodIn_t wsX80 [(2, 56), (2, 58), (2, 60), (2, 62), (2, 64), (2, 66), (2, 68), (2, 70), (2, 72), (2, 74)] (by decide +kernel) (by decide +kernel) w h).1
set_option maxRecDepth 20000 in
theorem inX9 : ∀ w ∈ wsX90, w ∈ lw_tbl3 := fun w h => (goodIn_t wsX90 [(1, 58), (1, 60)] (by decide +kernel) (by decide +kernel) w h).1
set_option maxRecDepth 20000 in
theorem inX10 : ∀ w ∈ wsX100, w ∈ lw_tbl3 := fun w h => (goodIn_t wsX100 [(2, 107), (2, 109), (2, 111), (2, 113), (2, 115), (2, 117), (2, 119), (2, 121), (2, 123), (2, 125)] (by decide +kernel) (by decide +kernel) w h).1
theorem goodIn_cons {big a : List Cond} {c : Cond} (h : GoodIn big [c]) (ha : GoodIn big a) : GoodIn big (c :: a) := fun w hw => (List.mem_cons.mp hw).elim (fun e => h w (by rw [e]; exact List.mem_cons_self)) (ha w)
