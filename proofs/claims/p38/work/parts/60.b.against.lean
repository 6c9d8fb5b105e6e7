/-! WHAT STANDS AGAINST A CHANGE -/
theorem bec (a b : Int32) : F_X8_because a b = (1, a, b) := rfl
theorem agp_eq (n a b : Int32) : F_X8_againstPair n a b = if F_X8_has n a = 0 then (1, 3, a) else if F_X8_has n b = 0 then (1, 3, b) else if a = b then (1, 4, a) else (0, 0, 0) := by
  unfold F_X8_againstPair
  simp only [bec]
  simp
theorem ag0_eq (n : Int32) : F_X8_against_ad0 n = if 6 ≤ n then (1, 2, 6) else (0, 0, 0) := by
  unfold F_X8_against_ad0
  simp only [bec]
  simp
theorem ag1_eq (cs : Nat → Int32) (n a b c : Int32) : F_X8_against_ad1 cs n a b c = if F_X8_has n a = 0 then (1, 3, a) else if F_X8_has n b = 0 then (1, 3, b) else if a = b then (1, 4, a) else if c < 1 then (1, 1, 0) else if c ≤ 9 then (if F_X8_costBetween cs a b = c then (1, 5, 0) else (0, 0, 0)) else (1, 1, 0) := by
  unfold F_X8_against_ad1 F_X8_againstCanal
  rw [agp_eq]
  simp only [bec]
  by_cases c1 : F_X8_has n a = 0
  · simp [c1]
  · by_cases c2 : F_X8_has n b = 0
    · simp [c1, c2]
    · by_cases c3 : a = b
      · simp only [if_neg c1, if_neg c2, if_pos c3]; simp
      · simp only [if_neg c1, if_neg c2, if_neg c3]
        by_cases c4 : c < 1
        · simp [c4]
        · by_cases c5 : c ≤ 9
          · by_cases c6 : F_X8_costBetween cs a b = c
            · simp only [if_neg c4, if_pos c5, if_pos c6]; simp
            · simp only [if_neg c4, if_pos c5, if_neg c6]; simp
          · simp only [if_neg c4, if_neg c5]; simp
theorem ag2_eq (cs : Nat → Int32) (n a b : Int32) : F_X8_against_ad2 cs n a b = if F_X8_has n a = 0 then (1, 3, a) else if F_X8_has n b = 0 then (1, 3, b) else if a = b then (1, 4, a) else if F_X8_costBetween cs a b = 0 then (1, 6, 0) else (0, 0, 0) := by
  unfold F_X8_against_ad2 F_X8_againstClosing
  rw [agp_eq]
  simp only [bec]
  by_cases c1 : F_X8_has n a = 0
  · simp [c1]
  · by_cases c2 : F_X8_has n b = 0
    · simp [c1, c2]
    · by_cases c3 : a = b
      · simp only [if_neg c1, if_neg c2, if_pos c3]; simp
      · simp only [if_neg c1, if_neg c2, if_neg c3]
        by_cases c6 : F_X8_costBetween cs a b = 0
        · simp only [if_pos c6]; simp
        · simp only [if_neg c6]; simp
theorem ag3_eq (ds : Nat → Int32) (n a b : Int32) : F_X8_against_ad3 ds n a b = if F_X8_has n a = 0 then (1, 3, a) else if b < 0 then (1, 1, 0) else if b < 3 then (if ds (ix a) = b then (1, 5, 0) else (0, 0, 0)) else (1, 1, 0) := by
  unfold F_X8_against_ad3 F_X8_againstDistrict
  simp only [bec]
  by_cases c1 : F_X8_has n a = 0
  · simp [c1]
  · by_cases c4 : b < 0
    · simp only [if_neg c1, if_pos c4]; simp
    · by_cases c5 : b < 3
      · by_cases c6 : ds (ix a) = b
        · simp only [if_neg c1, if_neg c4, if_pos c5, if_pos c6]; simp
        · simp only [if_neg c1, if_neg c4, if_pos c5, if_neg c6]; simp
      · simp only [if_neg c1, if_neg c4, if_neg c5]; simp
theorem ag4_eq (cn : Int32) : F_X8_against_ad4 cn = if cn ≤ 0 then (1, 7, 0) else (0, 0, 0) := by
  unfold F_X8_against_ad4
  simp only [bec]
  simp
theorem ag5_eq (a : Int32) : F_X8_against_ad5 a = if a < 1 then (1, 1, 0) else if 99 < a then (1, 1, 0) else (0, 0, 0) := by
  unfold F_X8_against_ad5
  simp only [bec]
  simp
theorem has_ex {N : Nat} (hN : N ≤ 6) {a : Int32} (h : ¬ F_X8_has (nI N) a = 0) : ∃ x : Nat, x < N ∧ a = nI x := by
  unfold F_X8_has at h
  by_cases c0 : a < 0
  · rw [if_pos c0] at h; exact absurd rfl h
  · rw [if_neg c0] at h
    by_cases c1 : nI N ≤ a
    · rw [if_pos c1] at h; exact absurd rfl h
    · have d0 := f_nlt c0
      have d1 := f_nle c1
      rw [i0] at d0
      rw [nI_toInt (by omega)] at d1
      exact ⟨a.toInt.toNat, by omega, qI_eq (by omega) (by omega)⟩
theorem ag1_ok {cs : Nat → Int32} {N : Nat} (hN : N ≤ 6) {a b c : Int32} (h : (F_X8_against_ad1 cs (nI N) a b c).1 = 0) : ∃ x y : Nat, x < N ∧ y < N ∧ x ≠ y ∧ a = nI x ∧ b = nI y ∧ 0 ≤ c.toInt ∧ c.toInt ≤ 9 := by
  rw [ag1_eq] at h
  by_cases c1 : F_X8_has (nI N) a = 0
  · rw [if_pos c1] at h; cases h
  · rw [if_neg c1] at h
    by_cases c2 : F_X8_has (nI N) b = 0
    · rw [if_pos c2] at h; cases h
    · rw [if_neg c2] at h
      by_cases c3 : a = b
      · rw [if_pos c3] at h; cases h
      · rw [if_neg c3] at h
        by_cases c4 : c < 1
        · rw [if_pos c4] at h; cases h
        · rw [if_neg c4] at h
          by_cases c5 : c ≤ 9
          · have d4 := f_nlt c4
            have d5 := f_le c5
            rw [i1] at d4
            rw [show (9 : Int32).toInt = 9 from by decide] at d5
            obtain ⟨x, hx, ex⟩ := has_ex hN c1
            obtain ⟨y, hy, ey⟩ := has_ex hN c2
            exact ⟨x, y, hx, hy, fun z => c3 (by rw [ex, ey, z]), ex, ey, by omega, d5⟩
          · rw [if_neg c5] at h; cases h
theorem ag2_ok {cs : Nat → Int32} {N : Nat} (hN : N ≤ 6) {a b : Int32} (h : (F_X8_against_ad2 cs (nI N) a b).1 = 0) : ∃ x y : Nat, x < N ∧ y < N ∧ x ≠ y ∧ a = nI x ∧ b = nI y := by
  rw [ag2_eq] at h
  by_cases c1 : F_X8_has (nI N) a = 0
  · rw [if_pos c1] at h; cases h
  · rw [if_neg c1] at h
    by_cases c2 : F_X8_has (nI N) b = 0
    · rw [if_pos c2] at h; cases h
    · rw [if_neg c2] at h
      by_cases c3 : a = b
      · rw [if_pos c3] at h; cases h
      · obtain ⟨x, hx, ex⟩ := has_ex hN c1
        obtain ⟨y, hy, ey⟩ := has_ex hN c2
        exact ⟨x, y, hx, hy, fun z => c3 (by rw [ex, ey, z]), ex, ey⟩
theorem ag3_ok {ds : Nat → Int32} {N : Nat} (hN : N ≤ 6) {a b : Int32} (h : (F_X8_against_ad3 ds (nI N) a b).1 = 0) : ∃ x : Nat, x < N ∧ a = nI x ∧ 0 ≤ b.toInt ∧ b.toInt ≤ 2 := by
  rw [ag3_eq] at h
  by_cases c1 : F_X8_has (nI N) a = 0
  · rw [if_pos c1] at h; cases h
  · rw [if_neg c1] at h
    by_cases c4 : b < 0
    · rw [if_pos c4] at h; cases h
    · rw [if_neg c4] at h
      by_cases c5 : b < 3
      · have d4 := f_nlt c4
        have d5 := f_lt c5
        rw [i0] at d4
        rw [show (3 : Int32).toInt = 3 from by decide] at d5
        obtain ⟨x, hx, ex⟩ := has_ex hN c1
        exact ⟨x, hx, ex, d4, by omega⟩
      · rw [if_neg c5] at h; cases h
theorem ag4_ok {cn : Int32} (h : (F_X8_against_ad4 cn).1 = 0) : 0 < cn.toInt := by
  rw [ag4_eq] at h
  by_cases c : cn ≤ 0
  · rw [if_pos c] at h; cases h
  · have d := f_nle c
    rw [i0] at d
    exact d
theorem ag5_ok {a : Int32} (h : (F_X8_against_ad5 a).1 = 0) : ∃ t : Nat, a = nI t ∧ 1 ≤ t ∧ t ≤ 99 := by
  rw [ag5_eq] at h
  by_cases c : a < 1
  · rw [if_pos c] at h; cases h
  · rw [if_neg c] at h
    by_cases c2 : 99 < a
    · rw [if_pos c2] at h; cases h
    · have d := f_nlt c
      have d2 := f_nlt c2
      rw [i1] at d
      rw [show (99 : Int32).toInt = 99 from by decide] at d2
      exact ⟨a.toInt.toNat, qI_eq (by omega) (by omega), by omega, by omega⟩
theorem ag0_ok {n : Int32} (h : (F_X8_against_ad0 n).1 = 0) : n.toInt < 6 := by
  rw [ag0_eq] at h
  by_cases c : 6 ≤ n
  · rw [if_pos c] at h; cases h
  · have d := f_nle c
    rw [i6] at d
    exact d
