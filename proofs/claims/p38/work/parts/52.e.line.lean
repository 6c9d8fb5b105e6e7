/-! A PAGE, A LINE: the same text in both buffers -/
/-- what a step leaves: more text, the same in both, and what it costs -/
def R5 (b w c1 c2 : Nat) (n1 s1 n2 s2 : Nat) (r1 r2 : Nat × (Nat → Int32) × Int32 × Nat × Nat) : Prop := ∃ w' c1' wb1' m1 t1 c2' wb2' m2 t2, r1 = (c1', wb1', nI w', n1 + m1, s1 + t1) ∧ r2 = (c2', wb2', nI w', n2 + m2, s2 + t2) ∧ w ≤ w' ∧ w' ≤ w + b ∧ TB2 wb1' c1' wb2' c2' w' ∧ CB c1 w' c1' m1 t1 ∧ CB c2 w' c2' m2 t2
theorem wp46 {PP : List PG} {a : Nat} (hc : CSR_ (pgd PP a).2.2.2) : ∀ (k t w : Nat) (wb1 wb2 : Nat → Int32) (c1 c2 n1 s1 n2 s2 : Nat), t ≤ 6 → w + 4 * (6 - t) ≤ 3900 → TB2 wb1 c1 wb2 c2 w → R5 (4 * (6 - t)) w c1 c2 n1 s1 n2 s2 (K_X10_writePage_46 (L_X10_writePage_46 PP a k (nI t) (nI w) c1 wb1 n1 s1)) (K_X10_writePage_46 (L_X10_writePage_46 PP a k (nI t) (nI w) c2 wb2 n2 s2)) := by
  intro k
  induction k with
  | zero =>
    intro t w wb1 wb2 c1 c2 n1 s1 n2 s2 ht hw h
    exact ⟨w, c1, wb1, 0, 0, c2, wb2, 0, 0, rfl, rfl, by omega, by omega, h, CB.rf h.2.1, CB.rf h.2.2.1⟩
  | succ k ih =>
    intro t w wb1 wb2 c1 c2 n1 s1 n2 s2 ht hw h
    rw [show L_X10_writePage_46 PP a (k + 1) (nI t) (nI w) c1 wb1 n1 s1 = B_X10_writePage_46 PP a (L_X10_writePage_46 PP a k) (nI t) (nI w) c1 wb1 n1 s1 from rfl, show L_X10_writePage_46 PP a (k + 1) (nI t) (nI w) c2 wb2 n2 s2 = B_X10_writePage_46 PP a (L_X10_writePage_46 PP a k) (nI t) (nI w) c2 wb2 n2 s2 from rfl]
    unfold B_X10_writePage_46
    by_cases c : t = 6
    · rw [if_pos ((ge6_nI ht).mpr c), if_pos ((ge6_nI ht).mpr c)]
      exact ⟨w, c1, wb1, 0, 0, c2, wb2, 0, 0, rfl, rfl, by omega, by omega, h, CB.rf h.2.1, CB.rf h.2.2.1⟩
    · rw [if_neg (fun g => c ((ge6_nI ht).mp g)), if_neg (fun g => c ((ge6_nI ht).mp g))]
      have hcv : 0 ≤ (F_X6_costTo (pgd PP a).2.2.2 (nI t)).toInt ∧ (F_X6_costTo (pgd PP a).2.2.2 (nI t)).toInt ≤ 9 := by
        unfold F_X6_costTo
        split
        · exact ⟨by decide, by decide⟩
        · split
          · exact ⟨by decide, by decide⟩
          · exact hc _
      generalize ev : F_X6_costTo (pgd PP a).2.2.2 (nI t) = v at hcv ⊢
      by_cases cv : v ≤ 0
      · rw [if_pos cv, if_pos cv, qI_succ (by omega)]
        obtain ⟨w', c1', wb1', m1, t1, c2', wb2', m2, t2, e1, e2, g1, g2, g3, g4, g5⟩ := ih (t + 1) w wb1 wb2 c1 c2 (n1 + 0) (s1 + 0) (n2 + 0) (s2 + 0) (by omega) (by omega) h
        exact ⟨w', c1', wb1', m1, t1, c2', wb2', m2, t2, e1, e2, g1, by omega, g3, g4, g5⟩
      · rw [if_neg cv, if_neg cv]
        obtain ⟨a1, b1, n1a, s1a, a2, b2, n2a, s2a, e1, e2, T1, B1, C1⟩ := ap_ch 44 h (by omega)
        rw [e1, e2]
        unfold K_X10_writePage_68
        obtain ⟨ka, a3, b3, n1b, s1b, a4, b4, n2b, s2b, k1, k2, k3, e3, e4, T2, B2, C2⟩ := ap_int (a := nI t) (by rw [nI_toInt (by omega)]; omega) (by rw [nI_toInt (by omega)]; omega) T1 (by omega)
        have k3 := k3 (by rw [nI_toInt (by omega)]; omega)
        subst k3
        simp only [e3, e4]
        unfold K_X10_writePage_72
        obtain ⟨a5, b5, n1c, s1c, a6, b6, n2c, s2c, e5, e6, T3, B3, C3⟩ := ap_ch 61 T2 (by omega)
        simp only [e5, e6]
        unfold K_X10_writePage_77
        obtain ⟨kb, a7, b7, n1d, s1d, a8, b8, n2d, s2d, k4, k5, k6, e7, e8, T4, B4, C4⟩ := ap_int (a := v) hcv.1 (by omega) T3 (by omega)
        have k6 := k6 (by omega)
        subst k6
        simp only []
        rw [ev, e7, e8]
        unfold K_X10_writePage_81
        simp only []
        rw [qI_succ (by omega)]
        obtain ⟨w', c1', wb1', m1, t1, c2', wb2', m2, t2, e9, e10, g1, g2, g3, g4, g5⟩ := ih (t + 1) (w + 1 + 1 + 1 + 1) b7 b8 a7 a8 (((((n1 + 0) + n1a) + n1b) + n1c) + n1d) (((((s1 + 0) + s1a) + s1b) + s1c) + s1d) (((((n2 + 0) + n2a) + n2b) + n2c) + n2d) (((((s2 + 0) + s2a) + s2b) + s2c) + s2d) (by omega) (by omega) T4
        refine ⟨w', c1', wb1', n1a + n1b + n1c + n1d + m1, s1a + s1b + s1c + s1d + t1, c2', wb2', n2a + n2b + n2c + n2d + m2, s2a + s2b + s2c + s2d + t2, ?_, ?_, by omega, by omega, g3, (((B1.tr B2 (by omega)).tr B3 (by omega)).tr B4 (by omega)).tr g4 (by omega), (((C1.tr C2 (by omega)).tr C3 (by omega)).tr C4 (by omega)).tr g5 (by omega)⟩
        · rw [e9]
          congr 4 <;> omega
        · rw [e10]
          congr 4 <;> omega
theorem wp_spec {PP : List PG} {a : Nat} (hp : (0 ≤ (pgd PP a).1.toInt ∧ (pgd PP a).1.toInt < 6) ∧ (0 ≤ (pgd PP a).2.1.toInt ∧ (pgd PP a).2.1.toInt < 1000000) ∧ CSR_ (pgd PP a).2.2.2) {w : Nat} {wb1 wb2 : Nat → Int32} {c1 c2 : Nat} (hw : w ≤ 3800) (h : TB2 wb1 c1 wb2 c2 w) : R5 33 w c1 c2 0 0 0 0 (F_X10_writePage PP wb1 c1 (nI w) a) (F_X10_writePage PP wb2 c2 (nI w) a) := by
  obtain ⟨⟨o1, o2⟩, ⟨r1, r2⟩, hc⟩ := hp
  unfold F_X10_writePage
  have el : F_J4_length_8abf5 (nI w) = nI w := rfl
  rw [el]
  by_cases c : w = 0
  · rw [if_pos (by rw [c]; decide), if_pos (by rw [c]; decide)]
    obtain ⟨ka, a1, b1, n1a, s1a, a2, b2, n2a, s2a, k1, k2, k3, e1, e2, T1, B1, C1⟩ := ap_int o1 (by omega) h (by omega)
    have k3 := k3 (by omega)
    subst k3
    rw [e1, e2]
    unfold K_X10_writePage_28
    obtain ⟨a3, b3, n1b, s1b, a4, b4, n2b, s2b, e3, e4, T2, B2, C2⟩ := ap_ch 58 T1 (by omega)
    simp only [e3, e4]
    unfold K_X10_writePage_33
    obtain ⟨kb, a5, b5, n1c, s1c, a6, b6, n2c, s2c, k4, k5, _, e5, e6, T3, B3, C3⟩ := ap_int r1 r2 T2 (by omega)
    simp only [e5, e6]
    unfold K_X10_writePage_40
    simp only []
    rw [fuel6, ← qI_0]
    obtain ⟨w', c1', wb1', m1, t1, c2', wb2', m2, t2, e9, e10, g1, g2, g3, g4, g5⟩ := wp46 hc 7 0 (w + 1 + 1 + kb) b5 b6 a5 a6 ((((0 + 0) + n1a) + n1b) + n1c) ((((0 + 0) + s1a) + s1b) + s1c) ((((0 + 0) + n2a) + n2b) + n2c) ((((0 + 0) + s2a) + s2b) + s2c) (by omega) (by omega) T3
    refine ⟨w', c1', wb1', n1a + n1b + n1c + m1, s1a + s1b + s1c + t1, c2', wb2', n2a + n2b + n2c + m2, s2a + s2b + s2c + t2, ?_, ?_, by omega, by omega, g3, ((B1.tr B2 (by omega)).tr B3 (by omega)).tr g4 (by omega), ((C1.tr C2 (by omega)).tr C3 (by omega)).tr g5 (by omega)⟩
    · rw [e9]
      congr 4 <;> omega
    · rw [e10]
      congr 4 <;> omega
  · have cn : ¬ nI w ≤ 0 := by
      rw [← qI_0, qI_le (by omega) (by omega)]
      omega
    rw [if_neg cn, if_neg cn]
    obtain ⟨a7, b7, n1d, s1d, a8, b8, n2d, s2d, e7, e8, T0, B0, C0⟩ := ap_ch 32 h (by omega)
    rw [e7, e8]
    unfold K_X10_writePage_16
    obtain ⟨ka, a1, b1, n1a, s1a, a2, b2, n2a, s2a, k1, k2, k3, e1, e2, T1, B1, C1⟩ := ap_int o1 (by omega) T0 (by omega)
    have k3 := k3 (by omega)
    subst k3
    simp only [e1, e2]
    unfold K_X10_writePage_28_1
    obtain ⟨a3, b3, n1b, s1b, a4, b4, n2b, s2b, e3, e4, T2, B2, C2⟩ := ap_ch 58 T1 (by omega)
    simp only [e3, e4]
    unfold K_X10_writePage_33_1
    obtain ⟨kb, a5, b5, n1c, s1c, a6, b6, n2c, s2c, k4, k5, _, e5, e6, T3, B3, C3⟩ := ap_int r1 r2 T2 (by omega)
    simp only [e5, e6]
    unfold K_X10_writePage_40_1
    simp only []
    rw [fuel6, ← qI_0]
    obtain ⟨w', c1', wb1', m1, t1, c2', wb2', m2, t2, e9, e10, g1, g2, g3, g4, g5⟩ := wp46 hc 7 0 (w + 1 + 1 + 1 + kb) b5 b6 a5 a6 (((((0 + 0) + n1d) + n1a) + n1b) + n1c) (((((0 + 0) + s1d) + s1a) + s1b) + s1c) (((((0 + 0) + n2d) + n2a) + n2b) + n2c) (((((0 + 0) + s2d) + s2a) + s2b) + s2c) (by omega) (by omega) T3
    refine ⟨w', c1', wb1', n1d + n1a + n1b + n1c + m1, s1d + s1a + s1b + s1c + t1, c2', wb2', n2d + n2a + n2b + n2c + m2, s2d + s2a + s2b + s2c + t2, ?_, ?_, by omega, by omega, g3, (((B0.tr B1 (by omega)).tr B2 (by omega)).tr B3 (by omega)).tr g4 (by omega), (((C0.tr C1 (by omega)).tr C2 (by omega)).tr C3 (by omega)).tr g5 (by omega)⟩
    · rw [e9]
      congr 4 <;> omega
    · rw [e10]
      congr 4 <;> omega
def K6r (r : Int32 × Int32 × Nat × (Nat → Int32) × Nat × Nat) : Nat × (Nat → Int32) × Int32 × Nat × Nat := (r.2.2.1, r.2.2.2.1, r.2.1, r.2.2.2.2.1, r.2.2.2.2.2)
theorem ln15 {PP : List PG} {mp : Nat → Int32} {n : Nat} {a : Int32} (hn : n ≤ 6) (hp : ∀ k, (0 ≤ (pgd PP k).1.toInt ∧ (pgd PP k).1.toInt < 6) ∧ (0 ≤ (pgd PP k).2.1.toInt ∧ (pgd PP k).2.1.toInt < 1000000) ∧ CSR_ (pgd PP k).2.2.2) : ∀ (k t w : Nat) (wb1 wb2 : Nat → Int32) (c1 c2 n1 s1 n2 s2 : Nat), t ≤ n → w + 33 * (n - t) ≤ 3000 → TB2 wb1 c1 wb2 c2 w → R5 (33 * (n - t)) w c1 c2 n1 s1 n2 s2 (K6r (L_X10_line_15 PP mp (nI n) a k (nI t) (nI w) c1 wb1 n1 s1)) (K6r (L_X10_line_15 PP mp (nI n) a k (nI t) (nI w) c2 wb2 n2 s2)) := by
  intro k
  induction k with
  | zero =>
    intro t w wb1 wb2 c1 c2 n1 s1 n2 s2 ht hw h
    exact ⟨w, c1, wb1, 0, 0, c2, wb2, 0, 0, rfl, rfl, by omega, by omega, h, CB.rf h.2.1, CB.rf h.2.2.1⟩
  | succ k ih =>
    intro t w wb1 wb2 c1 c2 n1 s1 n2 s2 ht hw h
    rw [show L_X10_line_15 PP mp (nI n) a (k + 1) (nI t) (nI w) c1 wb1 n1 s1 = B_X10_line_15 PP mp (nI n) a (L_X10_line_15 PP mp (nI n) a k) (nI t) (nI w) c1 wb1 n1 s1 from rfl, show L_X10_line_15 PP mp (nI n) a (k + 1) (nI t) (nI w) c2 wb2 n2 s2 = B_X10_line_15 PP mp (nI n) a (L_X10_line_15 PP mp (nI n) a k) (nI t) (nI w) c2 wb2 n2 s2 from rfl]
    unfold B_X10_line_15
    by_cases c : t = n
    · rw [if_pos (by rw [qI_le (by omega) (by omega)]; omega), if_pos (by rw [qI_le (by omega) (by omega)]; omega)]
      exact ⟨w, c1, wb1, 0, 0, c2, wb2, 0, 0, rfl, rfl, by omega, by omega, h, CB.rf h.2.1, CB.rf h.2.2.1⟩
    · have cle : ¬ nI n ≤ nI t := by rw [qI_le (by omega) (by omega)]; omega
      rw [if_neg cle, if_neg cle]
      by_cases cv : F_X6_isBlank (pgd PP (F_X8_pageIn PP mp a (nI t))).2.1 = 0
      · rw [if_pos cv, if_pos cv]
        obtain ⟨w1, a1, b1, n1a, s1a, a2, b2, n2a, s2a, e1, e2, g1, g2, T1, B1, C1⟩ := wp_spec (PP := PP) (a := F_X8_pageIn PP mp a (nI t)) (hp _) (w := w) (by omega) h
        rw [e1, e2]
        unfold K_X10_line_45
        simp only []
        rw [qI_succ (by omega)]
        obtain ⟨w', c1', wb1', m1, t1, c2', wb2', m2, t2, e9, e10, g1', g2', g3, g4, g5⟩ := ih (t + 1) w1 b1 b2 a1 a2 (((n1 + 0) + 0) + (0 + n1a)) (((s1 + 0) + 0) + (0 + s1a)) (((n2 + 0) + 0) + (0 + n2a)) (((s2 + 0) + 0) + (0 + s2a)) (by omega) (by omega) T1
        refine ⟨w', c1', wb1', n1a + m1, s1a + t1, c2', wb2', n2a + m2, s2a + t2, ?_, ?_, by omega, by omega, g3, B1.tr g4 (by omega), C1.tr g5 (by omega)⟩
        · rw [e9]
          congr 4 <;> omega
        · rw [e10]
          congr 4 <;> omega
      · rw [if_neg cv, if_neg cv, qI_succ (by omega)]
        obtain ⟨w', c1', wb1', m1, t1, c2', wb2', m2, t2, e1, e2, g1, g2, g3, g4, g5⟩ := ih (t + 1) w wb1 wb2 c1 c2 ((n1 + 0) + 0) ((s1 + 0) + 0) ((n2 + 0) + 0) ((s2 + 0) + 0) (by omega) (by omega) h
        exact ⟨w', c1', wb1', m1, t1, c2', wb2', m2, t2, e1, e2, g1, by omega, g3, g4, g5⟩
/-- a line's text is the same, whatever stood in the buffer -/
theorem line_spec {PP : List PG} {mp : Nat → Int32} {n : Nat} (a : Int32) (hn : n ≤ 6) (hp : ∀ k, (0 ≤ (pgd PP k).1.toInt ∧ (pgd PP k).1.toInt < 6) ∧ (0 ≤ (pgd PP k).2.1.toInt ∧ (pgd PP k).2.1.toInt < 1000000) ∧ CSR_ (pgd PP k).2.2.2) {wb1 wb2 : Nat → Int32} {c1 c2 : Nat} {wl1 wl2 wn1 wn2 : Int32} (h1 : c1 ≤ 20000) (h2 : c2 ≤ 20000) (hh : F_X10_needSurveyor (nI n) a = 0) :
    ∃ w c1' wb1' l1 m1 t1 c2' wb2' l2 m2 t2, F_X10_line PP mp (nI n) wb1 c1 wl1 wn1 a = (0, nI w, c1', wb1', l1, nI w, 1 + m1, 6 + t1) ∧ F_X10_line PP mp (nI n) wb2 c2 wl2 wn2 a = (0, nI w, c2', wb2', l2, nI w, 1 + m2, 6 + t2) ∧ w ≤ 198 ∧ TB2 wb1' c1' wb2' c2' w ∧ CB c1 w c1' m1 t1 ∧ CB c2 w c2' m2 t2 := by
  have sl : ∀ (wb : Nat → Int32) (c : Nat) (wl wn : Int32), c ≤ 20000 → ∃ wb' l, F_J4_setLength_d00df_0 wb c wl wn = (c, wb', l, 0, 0, 0) := by
    intro wb c wl wn hc
    have e0 : (0 : Int32) - nI c ≤ 0 := by
      rw [Int32.le_iff_toInt_le, subI (by rw [nI_toInt (by omega), i0]; omega) (by rw [nI_toInt (by omega), i0]; omega), nI_toInt (by omega), i0]
      omega
    unfold F_J4_setLength_d00df_0 F_J5_setLength_d00df_0 F_J5_ensureCapacityInternal_d00df
    rw [if_pos e0]
    by_cases c0 : wn ≤ 0
    · rw [if_pos c0]
      exact ⟨wb, wl, rfl⟩
    · rw [if_neg c0]
      exact ⟨wb, 1, rfl⟩
  obtain ⟨b1, l1, e1⟩ := sl wb1 c1 wl1 wn1 h1
  obtain ⟨b2, l2, e2⟩ := sl wb2 c2 wl2 wn2 h2
  unfold F_X10_line
  rw [if_pos hh, if_pos hh, e1, e2]
  unfold K_X10_line_10
  simp only []
  obtain ⟨w', c1', wb1', m1, t1, c2', wb2', m2, t2, q1, q2, g1, g2, g3, g4, g5⟩ := ln15 (PP := PP) (mp := mp) (a := a) hn hp (((nI n).toInt - (0 : Int32).toInt).toNat + 1) 0 0 b1 b2 c1 c2 ((0 + 1) + 0) ((0 + 6) + 0) ((0 + 1) + 0) ((0 + 6) + 0) (by omega) (by omega) ⟨fun i hi => by omega, by omega, by omega, h1, h2⟩
  rw [qI_0] at q1 q2
  generalize L_X10_line_15 PP mp (nI n) a (((nI n).toInt - (0 : Int32).toInt).toNat + 1) 0 0 c1 b1 ((0 + 1) + 0) ((0 + 6) + 0) = r1 at q1 ⊢
  generalize L_X10_line_15 PP mp (nI n) a (((nI n).toInt - (0 : Int32).toInt).toNat + 1) 0 0 c2 b2 ((0 + 1) + 0) ((0 + 6) + 0) = r2 at q2 ⊢
  obtain ⟨x1, x2, x3, x4, x5, x6⟩ := r1
  obtain ⟨y1, y2, y3, y4, y5, y6⟩ := r2
  have q1 : (x3, x4, x2, x5, x6) = (c1', wb1', nI w', 0 + 1 + 0 + m1, 0 + 6 + 0 + t1) := q1
  have q2 : (y3, y4, y2, y5, y6) = (c2', wb2', nI w', 0 + 1 + 0 + m2, 0 + 6 + 0 + t2) := q2
  simp only [Prod.mk.injEq] at q1 q2
  obtain ⟨rfl, rfl, rfl, rfl, rfl⟩ := q1
  obtain ⟨rfl, rfl, rfl, rfl, rfl⟩ := q2
  refine ⟨w', x3, x4, l1, m1, t1, y3, y4, l2, m2, t2, ?_, ?_, by omega, g3, g4, g5⟩
  · show (0, F_J4_length_8abf5 (nI w'), x3, x4, l1, nI w', 0 + 1 + 0 + m1 + 0, 0 + 6 + 0 + t1 + 0) = _
    rw [show F_J4_length_8abf5 (nI w') = nI w' from rfl]
    simp
  · show (0, F_J4_length_8abf5 (nI w'), y3, y4, l2, nI w', 0 + 1 + 0 + m2 + 0, 0 + 6 + 0 + t2 + 0) = _
    rw [show F_J4_length_8abf5 (nI w') = nI w' from rfl]
    simp
