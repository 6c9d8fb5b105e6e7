/-! THE TEXT OF A LINE: what stands in the buffer -/
theorem sizeC (a : Int32) (h0 : 0 ≤ a.toInt) (h1 : a.toInt < 1000000) : ∃ k : Nat, F_J6_stringSize_0f7a4 a = nI k ∧ 1 ≤ k ∧ k ≤ 6 ∧ (k = 1 → a.toInt < 10) ∧ (k = 2 → 10 ≤ a.toInt ∧ a.toInt < 100) ∧ (k = 3 → 100 ≤ a.toInt ∧ a.toInt < 1000) ∧ (k = 4 → 1000 ≤ a.toInt ∧ a.toInt < 10000) ∧ (k = 5 → 10000 ≤ a.toInt ∧ a.toInt < 100000) ∧ (k = 6 → 100000 ≤ a.toInt) := by
  have e0 : (0 : Int32).toInt = 0 := by decide +kernel
  have en := negI (x := a) (by omega)
  have q1 : (-10 : Int32).toInt = -10 := by decide +kernel
  have q2 : (-100 : Int32).toInt = -100 := by decide +kernel
  have q3 : (-1000 : Int32).toInt = -1000 := by decide +kernel
  have q4 : (-10000 : Int32).toInt = -10000 := by decide +kernel
  have q5 : (-100000 : Int32).toInt = -100000 := by decide +kernel
  have q6 : (-1000000 : Int32).toInt = -1000000 := by decide +kernel
  unfold F_J6_stringSize_0f7a4
  rw [if_neg (show ¬ a < 0 from fun z => by have := f_lt z; omega)]
  by_cases c1 : -a ≤ -10
  · rw [if_pos c1]
    have y1 := f_le c1
    by_cases c2 : -a ≤ -100
    · rw [if_pos c2]
      have y2 := f_le c2
      by_cases c3 : -a ≤ -1000
      · rw [if_pos c3]
        have y3 := f_le c3
        by_cases c4 : -a ≤ -10000
        · rw [if_pos c4]
          have y4 := f_le c4
          by_cases c5 : -a ≤ -100000
          · rw [if_pos c5]
            have y5 := f_le c5
            rw [if_neg (show ¬ -a ≤ -1000000 from fun z => by have := f_le z; omega)]
            exact ⟨6, rfl, by omega⟩
          · rw [if_neg c5]
            have y5 := f_nle c5
            exact ⟨5, rfl, by omega⟩
        · rw [if_neg c4]
          have y4 := f_nle c4
          exact ⟨4, rfl, by omega⟩
      · rw [if_neg c3]
        have y3 := f_nle c3
        exact ⟨3, rfl, by omega⟩
    · rw [if_neg c2]
      have y2 := f_nle c2
      exact ⟨2, rfl, by omega⟩
  · rw [if_neg c1]
    have y1 := f_nle c1
    exact ⟨1, rfl, by omega⟩
theorem predI {m : Nat} (h : m + 1 < 2 ^ 31) : nI (m + 1) + (-1) = nI m := by
  refine qI_eq (by omega) ?_
  have e : (-1 : Int32).toInt = -1 := by decide +kernel
  rw [addI (by rw [nI_toInt h, e]; omega) (by rw [nI_toInt h, e]; omega), nI_toInt h, e]
  omega
theorem dvn100 {x : Int32} (h0 : x.toInt ≤ 0) (h1 : -1000000 < x.toInt) : (x / 100).toInt = -(-x.toInt / 100) := by
  have e : (100 : Int32).toInt = 100 := by decide +kernel
  rw [Int32.toInt_div, e]
  have e2 : x.toInt.tdiv 100 = -(-x.toInt / 100) := by
    have h := Int.neg_tdiv (a := -x.toInt) (b := 100)
    rw [Int.neg_neg] at h
    rw [h, Int.tdiv_eq_ediv_of_nonneg (by omega)]
  rw [e2]
  exact Int.bmod_eq_of_le (by omega) (by omega)
def AGw (n : Nat) (w1 w2 : Nat → Int32) : Prop := ∀ i, i < n → w1 i = w2 i
theorem AGw.mono {n m : Nat} {w1 w2 : Nat → Int32} (h : AGw n w1 w2) (hm : m ≤ n) : AGw m w1 w2 := fun i hi => h i (by omega)
set_option maxHeartbeats 2000000 in
theorem gc_ag1 {a : Int32} (h0 : 0 ≤ a.toInt) (h1a : a.toInt < 1000000) (hr : a.toInt < 10) {w : Nat} (hw : w ≤ 5000) {w1 w2 : Nat → Int32} (h : AGw w w1 w2) : AGw (w + 1) (F_J6_getChars_ba4f3 a (nI (w + 1)) w1).2 (F_J6_getChars_ba4f3 a (nI (w + 1)) w2).2 := by
  have en := negI (x := a) (by omega)
  have e100 : (-100 : Int32).toInt = -100 := by decide +kernel
  have e9 : (-9 : Int32).toInt = -9 := by decide +kernel
  have h1 : (-100 : Int32) < -a := by rw [Int32.lt_iff_toInt_lt]; omega
  have g1 : (-9 : Int32) ≤ -a := by rw [Int32.le_iff_toInt_le]; omega
  have p0 : nI (w + 1) + (-1) = nI (w + 0) := predI (by omega)
  simp only [F_J6_getChars_ba4f3, K_J6_getChars_ba4f3_101, K_J6_getChars_ba4f3_92, K_J6_getChars_ba4f3_82, K_J6_getChars_ba4f3_73, K_J6_getChars_ba4f3_101_1, K_J6_getChars_ba4f3_92_1, K_J6_getChars_ba4f3_82_1, K_J6_getChars_ba4f3_73_1, K_J6_getChars_ba4f3_101_2, K_J6_getChars_ba4f3_92_2, K_J6_getChars_ba4f3_82_2, K_J6_getChars_ba4f3_73_2, K_J6_getChars_ba4f3_57, K_J6_getChars_ba4f3_44, K_J6_getChars_ba4f3_38, K_J6_getChars_ba4f3_36, K_J6_getChars_ba4f3_31, K_J6_getChars_ba4f3_57_1, K_J6_getChars_ba4f3_44_1, K_J6_getChars_ba4f3_38_1, K_J6_getChars_ba4f3_36_1, K_J6_getChars_ba4f3_31_1, K_J6_getChars_ba4f3_20, if_pos h1, if_pos g1, p0]
  simp only [qI_ix (show w + 0 < 2 ^ 31 by omega)]
  intro i hi
  simp only [updA]
  by_cases j0 : i = w + 0
  · simp only [j0, if_true, if_pos]
  simp only [if_neg j0]
  exact h i (by omega)
set_option maxHeartbeats 2000000 in
theorem gc_ag2 {a : Int32} (h0 : 0 ≤ a.toInt) (h1a : a.toInt < 1000000) (hr : 10 ≤ a.toInt ∧ a.toInt < 100) {w : Nat} (hw : w ≤ 5000) {w1 w2 : Nat → Int32} (h : AGw w w1 w2) : AGw (w + 2) (F_J6_getChars_ba4f3 a (nI (w + 2)) w1).2 (F_J6_getChars_ba4f3 a (nI (w + 2)) w2).2 := by
  have en := negI (x := a) (by omega)
  have e100 : (-100 : Int32).toInt = -100 := by decide +kernel
  have e9 : (-9 : Int32).toInt = -9 := by decide +kernel
  have h1 : (-100 : Int32) < -a := by rw [Int32.lt_iff_toInt_lt]; omega
  have n1 : ¬ (-9 : Int32) ≤ -a := by rw [Int32.le_iff_toInt_le]; omega
  have p0 : nI (w + 1) + (-1) = nI (w + 0) := predI (by omega)
  have p1 : nI (w + 2) + (-1) = nI (w + 1) := predI (by omega)
  simp only [F_J6_getChars_ba4f3, K_J6_getChars_ba4f3_101, K_J6_getChars_ba4f3_92, K_J6_getChars_ba4f3_82, K_J6_getChars_ba4f3_73, K_J6_getChars_ba4f3_101_1, K_J6_getChars_ba4f3_92_1, K_J6_getChars_ba4f3_82_1, K_J6_getChars_ba4f3_73_1, K_J6_getChars_ba4f3_101_2, K_J6_getChars_ba4f3_92_2, K_J6_getChars_ba4f3_82_2, K_J6_getChars_ba4f3_73_2, K_J6_getChars_ba4f3_57, K_J6_getChars_ba4f3_44, K_J6_getChars_ba4f3_38, K_J6_getChars_ba4f3_36, K_J6_getChars_ba4f3_31, K_J6_getChars_ba4f3_57_1, K_J6_getChars_ba4f3_44_1, K_J6_getChars_ba4f3_38_1, K_J6_getChars_ba4f3_36_1, K_J6_getChars_ba4f3_31_1, K_J6_getChars_ba4f3_20, if_pos h1, if_neg n1, p1, p0]
  simp only [qI_ix (show w + 0 < 2 ^ 31 by omega), qI_ix (show w + 1 < 2 ^ 31 by omega)]
  intro i hi
  simp only [updA]
  by_cases j0 : i = w + 0
  · simp only [j0, if_true, if_pos]
  simp only [if_neg j0]
  by_cases j1 : i = w + 1
  · simp only [j1, if_true, if_pos]
  simp only [if_neg j1]
  exact h i (by omega)
set_option maxHeartbeats 2000000 in
theorem gc_ag3 {a : Int32} (h0 : 0 ≤ a.toInt) (h1a : a.toInt < 1000000) (hr : 100 ≤ a.toInt ∧ a.toInt < 1000) {w : Nat} (hw : w ≤ 5000) {w1 w2 : Nat → Int32} (h : AGw w w1 w2) : AGw (w + 3) (F_J6_getChars_ba4f3 a (nI (w + 3)) w1).2 (F_J6_getChars_ba4f3 a (nI (w + 3)) w2).2 := by
  have en := negI (x := a) (by omega)
  have e100 : (-100 : Int32).toInt = -100 := by decide +kernel
  have e9 : (-9 : Int32).toInt = -9 := by decide +kernel
  have d1 := dvn100 (x := -a) (by omega) (by omega)
  have m1 : ¬ (-100 : Int32) < -a := by rw [Int32.lt_iff_toInt_lt]; omega
  have h2 : (-100 : Int32) < -a / 100 := by rw [Int32.lt_iff_toInt_lt]; omega
  have g2 : (-9 : Int32) ≤ -a / 100 := by rw [Int32.le_iff_toInt_le]; omega
  have p0 : nI (w + 1) + (-1) = nI (w + 0) := predI (by omega)
  have p1 : nI (w + 2) + (-1) = nI (w + 1) := predI (by omega)
  have p2 : nI (w + 3) + (-1) = nI (w + 2) := predI (by omega)
  simp only [F_J6_getChars_ba4f3, K_J6_getChars_ba4f3_101, K_J6_getChars_ba4f3_92, K_J6_getChars_ba4f3_82, K_J6_getChars_ba4f3_73, K_J6_getChars_ba4f3_101_1, K_J6_getChars_ba4f3_92_1, K_J6_getChars_ba4f3_82_1, K_J6_getChars_ba4f3_73_1, K_J6_getChars_ba4f3_101_2, K_J6_getChars_ba4f3_92_2, K_J6_getChars_ba4f3_82_2, K_J6_getChars_ba4f3_73_2, K_J6_getChars_ba4f3_57, K_J6_getChars_ba4f3_44, K_J6_getChars_ba4f3_38, K_J6_getChars_ba4f3_36, K_J6_getChars_ba4f3_31, K_J6_getChars_ba4f3_57_1, K_J6_getChars_ba4f3_44_1, K_J6_getChars_ba4f3_38_1, K_J6_getChars_ba4f3_36_1, K_J6_getChars_ba4f3_31_1, K_J6_getChars_ba4f3_20, if_neg m1, if_pos h2, if_pos g2, p2, p1, p0]
  simp only [qI_ix (show w + 0 < 2 ^ 31 by omega), qI_ix (show w + 1 < 2 ^ 31 by omega), qI_ix (show w + 2 < 2 ^ 31 by omega)]
  intro i hi
  simp only [updA]
  by_cases j0 : i = w + 0
  · simp only [j0, if_true, if_pos]
  simp only [if_neg j0]
  by_cases j1 : i = w + 1
  · simp only [j1, if_true, if_pos]
  simp only [if_neg j1]
  by_cases j2 : i = w + 2
  · simp only [j2, if_true, if_pos]
  simp only [if_neg j2]
  exact h i (by omega)
set_option maxHeartbeats 2000000 in
theorem gc_ag4 {a : Int32} (h0 : 0 ≤ a.toInt) (h1a : a.toInt < 1000000) (hr : 1000 ≤ a.toInt ∧ a.toInt < 10000) {w : Nat} (hw : w ≤ 5000) {w1 w2 : Nat → Int32} (h : AGw w w1 w2) : AGw (w + 4) (F_J6_getChars_ba4f3 a (nI (w + 4)) w1).2 (F_J6_getChars_ba4f3 a (nI (w + 4)) w2).2 := by
  have en := negI (x := a) (by omega)
  have e100 : (-100 : Int32).toInt = -100 := by decide +kernel
  have e9 : (-9 : Int32).toInt = -9 := by decide +kernel
  have d1 := dvn100 (x := -a) (by omega) (by omega)
  have m1 : ¬ (-100 : Int32) < -a := by rw [Int32.lt_iff_toInt_lt]; omega
  have h2 : (-100 : Int32) < -a / 100 := by rw [Int32.lt_iff_toInt_lt]; omega
  have n2 : ¬ (-9 : Int32) ≤ -a / 100 := by rw [Int32.le_iff_toInt_le]; omega
  have p0 : nI (w + 1) + (-1) = nI (w + 0) := predI (by omega)
  have p1 : nI (w + 2) + (-1) = nI (w + 1) := predI (by omega)
  have p2 : nI (w + 3) + (-1) = nI (w + 2) := predI (by omega)
  have p3 : nI (w + 4) + (-1) = nI (w + 3) := predI (by omega)
  simp only [F_J6_getChars_ba4f3, K_J6_getChars_ba4f3_101, K_J6_getChars_ba4f3_92, K_J6_getChars_ba4f3_82, K_J6_getChars_ba4f3_73, K_J6_getChars_ba4f3_101_1, K_J6_getChars_ba4f3_92_1, K_J6_getChars_ba4f3_82_1, K_J6_getChars_ba4f3_73_1, K_J6_getChars_ba4f3_101_2, K_J6_getChars_ba4f3_92_2, K_J6_getChars_ba4f3_82_2, K_J6_getChars_ba4f3_73_2, K_J6_getChars_ba4f3_57, K_J6_getChars_ba4f3_44, K_J6_getChars_ba4f3_38, K_J6_getChars_ba4f3_36, K_J6_getChars_ba4f3_31, K_J6_getChars_ba4f3_57_1, K_J6_getChars_ba4f3_44_1, K_J6_getChars_ba4f3_38_1, K_J6_getChars_ba4f3_36_1, K_J6_getChars_ba4f3_31_1, K_J6_getChars_ba4f3_20, if_neg m1, if_pos h2, if_neg n2, p3, p2, p1, p0]
  simp only [qI_ix (show w + 0 < 2 ^ 31 by omega), qI_ix (show w + 1 < 2 ^ 31 by omega), qI_ix (show w + 2 < 2 ^ 31 by omega), qI_ix (show w + 3 < 2 ^ 31 by omega)]
  intro i hi
  simp only [updA]
  by_cases j0 : i = w + 0
  · simp only [j0, if_true, if_pos]
  simp only [if_neg j0]
  by_cases j1 : i = w + 1
  · simp only [j1, if_true, if_pos]
  simp only [if_neg j1]
  by_cases j2 : i = w + 2
  · simp only [j2, if_true, if_pos]
  simp only [if_neg j2]
  by_cases j3 : i = w + 3
  · simp only [j3, if_true, if_pos]
  simp only [if_neg j3]
  exact h i (by omega)
set_option maxHeartbeats 2000000 in
theorem gc_ag5 {a : Int32} (h0 : 0 ≤ a.toInt) (h1a : a.toInt < 1000000) (hr : 10000 ≤ a.toInt ∧ a.toInt < 100000) {w : Nat} (hw : w ≤ 5000) {w1 w2 : Nat → Int32} (h : AGw w w1 w2) : AGw (w + 5) (F_J6_getChars_ba4f3 a (nI (w + 5)) w1).2 (F_J6_getChars_ba4f3 a (nI (w + 5)) w2).2 := by
  have en := negI (x := a) (by omega)
  have e100 : (-100 : Int32).toInt = -100 := by decide +kernel
  have e9 : (-9 : Int32).toInt = -9 := by decide +kernel
  have d1 := dvn100 (x := -a) (by omega) (by omega)
  have d2 := dvn100 (x := -a / 100) (by omega) (by omega)
  have m1 : ¬ (-100 : Int32) < -a := by rw [Int32.lt_iff_toInt_lt]; omega
  have m2 : ¬ (-100 : Int32) < -a / 100 := by rw [Int32.lt_iff_toInt_lt]; omega
  have g3 : (-9 : Int32) ≤ -a / 100 / 100 := by rw [Int32.le_iff_toInt_le]; omega
  have p0 : nI (w + 1) + (-1) = nI (w + 0) := predI (by omega)
  have p1 : nI (w + 2) + (-1) = nI (w + 1) := predI (by omega)
  have p2 : nI (w + 3) + (-1) = nI (w + 2) := predI (by omega)
  have p3 : nI (w + 4) + (-1) = nI (w + 3) := predI (by omega)
  have p4 : nI (w + 5) + (-1) = nI (w + 4) := predI (by omega)
  simp only [F_J6_getChars_ba4f3, K_J6_getChars_ba4f3_101, K_J6_getChars_ba4f3_92, K_J6_getChars_ba4f3_82, K_J6_getChars_ba4f3_73, K_J6_getChars_ba4f3_101_1, K_J6_getChars_ba4f3_92_1, K_J6_getChars_ba4f3_82_1, K_J6_getChars_ba4f3_73_1, K_J6_getChars_ba4f3_101_2, K_J6_getChars_ba4f3_92_2, K_J6_getChars_ba4f3_82_2, K_J6_getChars_ba4f3_73_2, K_J6_getChars_ba4f3_57, K_J6_getChars_ba4f3_44, K_J6_getChars_ba4f3_38, K_J6_getChars_ba4f3_36, K_J6_getChars_ba4f3_31, K_J6_getChars_ba4f3_57_1, K_J6_getChars_ba4f3_44_1, K_J6_getChars_ba4f3_38_1, K_J6_getChars_ba4f3_36_1, K_J6_getChars_ba4f3_31_1, K_J6_getChars_ba4f3_20, if_neg m1, if_neg m2, if_pos g3, p4, p3, p2, p1, p0]
  simp only [qI_ix (show w + 0 < 2 ^ 31 by omega), qI_ix (show w + 1 < 2 ^ 31 by omega), qI_ix (show w + 2 < 2 ^ 31 by omega), qI_ix (show w + 3 < 2 ^ 31 by omega), qI_ix (show w + 4 < 2 ^ 31 by omega)]
  intro i hi
  simp only [updA]
  by_cases j0 : i = w + 0
  · simp only [j0, if_true, if_pos]
  simp only [if_neg j0]
  by_cases j1 : i = w + 1
  · simp only [j1, if_true, if_pos]
  simp only [if_neg j1]
  by_cases j2 : i = w + 2
  · simp only [j2, if_true, if_pos]
  simp only [if_neg j2]
  by_cases j3 : i = w + 3
  · simp only [j3, if_true, if_pos]
  simp only [if_neg j3]
  by_cases j4 : i = w + 4
  · simp only [j4, if_true, if_pos]
  simp only [if_neg j4]
  exact h i (by omega)
set_option maxHeartbeats 2000000 in
theorem gc_ag6 {a : Int32} (h0 : 0 ≤ a.toInt) (h1a : a.toInt < 1000000) (hr : 100000 ≤ a.toInt) {w : Nat} (hw : w ≤ 5000) {w1 w2 : Nat → Int32} (h : AGw w w1 w2) : AGw (w + 6) (F_J6_getChars_ba4f3 a (nI (w + 6)) w1).2 (F_J6_getChars_ba4f3 a (nI (w + 6)) w2).2 := by
  have en := negI (x := a) (by omega)
  have e100 : (-100 : Int32).toInt = -100 := by decide +kernel
  have e9 : (-9 : Int32).toInt = -9 := by decide +kernel
  have d1 := dvn100 (x := -a) (by omega) (by omega)
  have d2 := dvn100 (x := -a / 100) (by omega) (by omega)
  have m1 : ¬ (-100 : Int32) < -a := by rw [Int32.lt_iff_toInt_lt]; omega
  have m2 : ¬ (-100 : Int32) < -a / 100 := by rw [Int32.lt_iff_toInt_lt]; omega
  have n3 : ¬ (-9 : Int32) ≤ -a / 100 / 100 := by rw [Int32.le_iff_toInt_le]; omega
  have p0 : nI (w + 1) + (-1) = nI (w + 0) := predI (by omega)
  have p1 : nI (w + 2) + (-1) = nI (w + 1) := predI (by omega)
  have p2 : nI (w + 3) + (-1) = nI (w + 2) := predI (by omega)
  have p3 : nI (w + 4) + (-1) = nI (w + 3) := predI (by omega)
  have p4 : nI (w + 5) + (-1) = nI (w + 4) := predI (by omega)
  have p5 : nI (w + 6) + (-1) = nI (w + 5) := predI (by omega)
  simp only [F_J6_getChars_ba4f3, K_J6_getChars_ba4f3_101, K_J6_getChars_ba4f3_92, K_J6_getChars_ba4f3_82, K_J6_getChars_ba4f3_73, K_J6_getChars_ba4f3_101_1, K_J6_getChars_ba4f3_92_1, K_J6_getChars_ba4f3_82_1, K_J6_getChars_ba4f3_73_1, K_J6_getChars_ba4f3_101_2, K_J6_getChars_ba4f3_92_2, K_J6_getChars_ba4f3_82_2, K_J6_getChars_ba4f3_73_2, K_J6_getChars_ba4f3_57, K_J6_getChars_ba4f3_44, K_J6_getChars_ba4f3_38, K_J6_getChars_ba4f3_36, K_J6_getChars_ba4f3_31, K_J6_getChars_ba4f3_57_1, K_J6_getChars_ba4f3_44_1, K_J6_getChars_ba4f3_38_1, K_J6_getChars_ba4f3_36_1, K_J6_getChars_ba4f3_31_1, K_J6_getChars_ba4f3_20, if_neg m1, if_neg m2, if_neg n3, p5, p4, p3, p2, p1, p0]
  simp only [qI_ix (show w + 0 < 2 ^ 31 by omega), qI_ix (show w + 1 < 2 ^ 31 by omega), qI_ix (show w + 2 < 2 ^ 31 by omega), qI_ix (show w + 3 < 2 ^ 31 by omega), qI_ix (show w + 4 < 2 ^ 31 by omega), qI_ix (show w + 5 < 2 ^ 31 by omega)]
  intro i hi
  simp only [updA]
  by_cases j0 : i = w + 0
  · simp only [j0, if_true, if_pos]
  simp only [if_neg j0]
  by_cases j1 : i = w + 1
  · simp only [j1, if_true, if_pos]
  simp only [if_neg j1]
  by_cases j2 : i = w + 2
  · simp only [j2, if_true, if_pos]
  simp only [if_neg j2]
  by_cases j3 : i = w + 3
  · simp only [j3, if_true, if_pos]
  simp only [if_neg j3]
  by_cases j4 : i = w + 4
  · simp only [j4, if_true, if_pos]
  simp only [if_neg j4]
  by_cases j5 : i = w + 5
  · simp only [j5, if_true, if_pos]
  simp only [if_neg j5]
  exact h i (by omega)
set_option maxHeartbeats 2000000 in
theorem gc_ag {a : Int32} (h0 : 0 ≤ a.toInt) (h1 : a.toInt < 1000000) {w : Nat} (hw : w ≤ 5000) {w1 w2 : Nat → Int32} (h : AGw w w1 w2) : ∃ k : Nat, F_J6_stringSize_0f7a4 a = nI k ∧ 1 ≤ k ∧ k ≤ 6 ∧ AGw (w + k) (F_J6_getChars_ba4f3 a (nI (w + k)) w1).2 (F_J6_getChars_ba4f3 a (nI (w + k)) w2).2 := by
  obtain ⟨k, e, k1, k6, c1, c2, c3, c4, c5, c6⟩ := sizeC a h0 h1
  refine ⟨k, e, k1, k6, ?_⟩
  have hk : k = 1 ∨ k = 2 ∨ k = 3 ∨ k = 4 ∨ k = 5 ∨ k = 6 := by omega
  rcases hk with rfl | rfl | rfl | rfl | rfl | rfl
  · exact gc_ag1 h0 h1 (c1 rfl) hw h
  · exact gc_ag2 h0 h1 (c2 rfl) hw h
  · exact gc_ag3 h0 h1 (c3 rfl) hw h
  · exact gc_ag4 h0 h1 (c4 rfl) hw h
  · exact gc_ag5 h0 h1 (c5 rfl) hw h
  · exact gc_ag6 h0 h1 (c6 rfl) hw h

/-- the capacity's bounds and what growing costs -/
def CB (cap m cap' c s : Nat) : Prop := cap ≤ cap' ∧ m ≤ cap' ∧ (cap' = cap ∨ cap' ≤ 2 * m + 2) ∧ c + cap ≤ cap' ∧ s + 2 * cap ≤ 2 * cap'
theorem CB.tr {a m b c s m' d c' s' : Nat} (h : CB a m b c s) (h' : CB b m' d c' s') (hm : m ≤ m') : CB a m' d (c + c') (s + s') := by
  obtain ⟨a1, a2, a3, a4, a5⟩ := h
  obtain ⟨b1, b2, b3, b4, b5⟩ := h'
  refine ⟨by omega, by omega, by omega, by omega, by omega⟩
theorem CB.rf {a m : Nat} (h : m ≤ a) : CB a m a 0 0 := ⟨by omega, h, Or.inl rfl, by omega, by omega⟩
theorem en_spec (wb : Nat → Int32) {cap m : Nat} (hc : cap ≤ 20000) (hm : m ≤ 6000) : ∃ cap' wb' c s, F_J5_ensureCapacityInternal_d00df wb cap (nI m) = (cap', wb', c, s) ∧ CB cap m cap' c s ∧ ∀ i, i < cap → wb' i = wb i := by
  unfold F_J5_ensureCapacityInternal_d00df
  have em := nI_toInt (n := m) (by omega)
  have ec := nI_toInt (n := cap) (by omega)
  have es : (nI m - nI cap).toInt = (nI m).toInt - (nI cap).toInt := subI (by omega) (by omega)
  by_cases h : nI m - nI cap ≤ 0
  · have h0 := f_le h
    rw [i0] at h0
    rw [if_pos h]
    exact ⟨_, _, _, _, rfl, ⟨Nat.le_refl _, by omega, Or.inl rfl, by omega, by omega⟩, fun i _ => rfl⟩
  · have h0 := f_nle h
    rw [i0] at h0
    rw [if_neg h]
    have k := R_J5_newCapacity cap (nI m) (by omega) (by omega) (by omega)
    generalize F_J5_newCapacity_0f7a4 cap (nI m) = nc at k ⊢
    obtain ⟨N, eN⟩ : ∃ N : Nat, nc.toInt = (N : Int) := ⟨nc.toInt.toNat, by omega⟩
    have e := nI_mk eN
    subst e
    unfold F_J7_copyOf_9075b
    have ei := inI_r (nI cap) (nI N)
    have ex : ix (inI (nI cap) (nI N)) = cap := by rw [ix_toNat]; omega
    have eX : ix (nI N) = N := by rw [ix_toNat]; omega
    rw [ex, eX]
    exact ⟨N, va_cpy wb (fun _ => 0) 0 0 cap, 1, N, by simp, ⟨by omega, by omega, Or.inr (by omega), by omega, by omega⟩, fun i hi => cpy_in hi⟩
/-- two buffers with the same text -/
def TB2 (wb1 : Nat → Int32) (c1 : Nat) (wb2 : Nat → Int32) (c2 w : Nat) : Prop := AGw w wb1 wb2 ∧ w ≤ c1 ∧ w ≤ c2 ∧ c1 ≤ 20000 ∧ c2 ≤ 20000
theorem ap_ch {wb1 wb2 : Nat → Int32} {c1 c2 w : Nat} (ch : Int32) (h : TB2 wb1 c1 wb2 c2 w) (hw : w ≤ 4000) : ∃ c1' wb1' n1 s1 c2' wb2' n2 s2, F_J4_append_cf468 wb1 c1 (nI w) ch = (c1', wb1', nI (w + 1), n1, s1) ∧ F_J4_append_cf468 wb2 c2 (nI w) ch = (c2', wb2', nI (w + 1), n2, s2) ∧ TB2 wb1' c1' wb2' c2' (w + 1) ∧ CB c1 (w + 1) c1' n1 s1 ∧ CB c2 (w + 1) c2' n2 s2 := by
  obtain ⟨h1, h2, h3, h4, h5⟩ := h
  obtain ⟨c1', wb1', n1, s1, e1, B1, g1⟩ := en_spec wb1 (cap := c1) (m := w + 1) (by omega) (by omega)
  obtain ⟨c2', wb2', n2, s2, e2, B2, g2⟩ := en_spec wb2 (cap := c2) (m := w + 1) (by omega) (by omega)
  unfold F_J4_append_cf468 F_J5_append_3fe6f
  rw [qI_succ (by omega), e1, e2, qI_ix (by omega)]
  refine ⟨_, _, _, _, _, _, _, _, rfl, rfl, ⟨?_, B1.2.1, B2.2.1, ?_, ?_⟩, ?_, ?_⟩
  · intro i hi
    simp only [updA]
    by_cases j : i = w
    · rw [if_pos j, if_pos j]
    · rw [if_neg j, if_neg j, g1 i (by omega), g2 i (by omega)]
      exact h1 i (by omega)
  · have := B1.2.2.1
    omega
  · have := B2.2.2.1
    omega
  · simpa using B1
  · simpa using B2
theorem ap_int {wb1 wb2 : Nat → Int32} {c1 c2 w : Nat} {a : Int32} (h0 : 0 ≤ a.toInt) (h1a : a.toInt < 1000000) (h : TB2 wb1 c1 wb2 c2 w) (hw : w ≤ 4000) : ∃ k c1' wb1' n1 s1 c2' wb2' n2 s2, 1 ≤ k ∧ k ≤ 6 ∧ (a.toInt < 10 → k = 1) ∧ F_J4_append_bf812 wb1 c1 (nI w) a = (c1', wb1', nI (w + k), n1, s1) ∧ F_J4_append_bf812 wb2 c2 (nI w) a = (c2', wb2', nI (w + k), n2, s2) ∧ TB2 wb1' c1' wb2' c2' (w + k) ∧ CB c1 (w + k) c1' n1 s1 ∧ CB c2 (w + k) c2' n2 s2 := by
  obtain ⟨h1, h2, h3, h4, h5⟩ := h
  obtain ⟨k0, ek0, q1, q2, _⟩ := gc_ag h0 h1a (w := 0) (by omega) (w1 := wb1) (w2 := wb1) (fun _ _ => rfl)
  obtain ⟨c1', wb1', n1, s1, e1, B1, g1⟩ := en_spec wb1 (cap := c1) (m := w + k0) (by omega) (by omega)
  obtain ⟨c2', wb2', n2, s2, e2, B2, g2⟩ := en_spec wb2 (cap := c2) (m := w + k0) (by omega) (by omega)
  obtain ⟨k, ek, k1, k2, G⟩ := gc_ag h0 h1a (w := w) (by omega) (w1 := wb1') (w2 := wb2') (fun i hi => by rw [g1 i (by omega), g2 i (by omega)]; exact h1 i hi)
  have ekk : k = k0 := by
    have := ek.symm.trans ek0
    rwa [qI_inj (by omega) (by omega)] at this
  subst ekk
  have ea : nI w + nI k = nI (w + k) := qI_eq (by omega) (by rw [addI (by rw [nI_toInt (by omega), nI_toInt (by omega)]; omega) (by rw [nI_toInt (by omega), nI_toInt (by omega)]; omega), nI_toInt (by omega), nI_toInt (by omega)]; omega)
  unfold F_J4_append_bf812 F_J5_append_c97b9
  rw [ek]
  unfold K_J5_append_c97b9_7
  rw [ea, e1, e2]
  refine ⟨k, _, _, _, _, _, _, _, _, k1, k2, ?_, rfl, rfl, ⟨G, B1.2.1, B2.2.1, ?_, ?_⟩, ?_, ?_⟩
  · intro ha
    have e := (R_J6_stringSize a h0 h1a).2.2.2.2.2.2.2 ha
    rw [ek, nI_toInt (by omega)] at e
    omega
  · have := B1.2.2.1
    omega
  · have := B2.2.2.1
    omega
  · simpa using B1
  · simpa using B2
