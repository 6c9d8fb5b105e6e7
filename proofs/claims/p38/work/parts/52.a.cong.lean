def OB (PP1 PP2 : List PG) (mp pk1 pk2 : Nat → Int32) (cn : Int32) : Prop := (∀ a b, F_X8_pageIn PP2 mp a b = F_X8_pageIn PP1 mp a b) ∧ (∀ a b, pgd PP2 (F_X8_pageIn PP1 mp a b) = pgd PP1 (F_X8_pageIn PP1 mp a b)) ∧ (∀ a, F_X5_senderOf pk2 cn a = F_X5_senderOf pk1 cn a) ∧ (∀ a, F_X5_receiverOf pk2 cn a = F_X5_receiverOf pk1 cn a) ∧ (∀ a, pgd PP2 (F_X8_pageOfLetter PP2 pk2 cn a) = pgd PP1 (F_X8_pageOfLetter PP1 pk1 cn a))
set_option maxHeartbeats 1000000 in
theorem cg_B_X8_pagesIn_4 {PP1 PP2 : List PG} {mp pk1 pk2 : Nat → Int32} {cn : Int32} (h : OB PP1 PP2 mp pk1 pk2 cn) (n : Int32) (a1 : Int32) (rc_4 : Int32 → Int32 → (Int32 × Int32)) (x4_2 : Int32) (x4_3 : Int32) : B_X8_pagesIn_4 PP2 mp n a1 rc_4 x4_2 x4_3 = B_X8_pagesIn_4 PP1 mp n a1 rc_4 x4_2 x4_3 := by
  unfold B_X8_pagesIn_4
  simp only [h.1, h.2.1, h.2.2.1, h.2.2.2.1, h.2.2.2.2]
set_option maxHeartbeats 1000000 in
theorem cg_L_X8_pagesIn_4 {PP1 PP2 : List PG} {mp pk1 pk2 : Nat → Int32} {cn : Int32} (h : OB PP1 PP2 mp pk1 pk2 cn) (n : Int32) (a1 : Int32) : ∀ k : Nat, L_X8_pagesIn_4 PP2 mp n a1 k = L_X8_pagesIn_4 PP1 mp n a1 k := by
  intro k
  induction k with
  | zero => rfl
  | succ k ih =>
    show B_X8_pagesIn_4 PP2 mp n a1 (L_X8_pagesIn_4 PP2 mp n a1 k) = B_X8_pagesIn_4 PP1 mp n a1 (L_X8_pagesIn_4 PP1 mp n a1 k)
    rw [ih]
    funext z0 z1
    exact cg_B_X8_pagesIn_4 h _ _ _ _ _
set_option maxHeartbeats 1000000 in
theorem cg_F_X8_pagesIn {PP1 PP2 : List PG} {mp pk1 pk2 : Nat → Int32} {cn : Int32} (h : OB PP1 PP2 mp pk1 pk2 cn) (n : Int32) (a1 : Int32) : F_X8_pagesIn PP2 mp n a1 = F_X8_pagesIn PP1 mp n a1 := by
  unfold F_X8_pagesIn
  simp only [h.1, h.2.1, h.2.2.1, h.2.2.2.1, h.2.2.2.2, cg_L_X8_pagesIn_4 h]
set_option maxHeartbeats 1000000 in
theorem cg_B_X8_countPages_4 {PP1 PP2 : List PG} {mp pk1 pk2 : Nat → Int32} {cn : Int32} (h : OB PP1 PP2 mp pk1 pk2 cn) (n : Int32) (rc_4 : Int32 → Int32 → (Int32 × Int32)) (x4_1 : Int32) (x4_2 : Int32) : B_X8_countPages_4 PP2 mp n rc_4 x4_1 x4_2 = B_X8_countPages_4 PP1 mp n rc_4 x4_1 x4_2 := by
  unfold B_X8_countPages_4
  simp only [h.1, h.2.1, h.2.2.1, h.2.2.2.1, h.2.2.2.2, cg_F_X8_pagesIn h]
set_option maxHeartbeats 1000000 in
theorem cg_L_X8_countPages_4 {PP1 PP2 : List PG} {mp pk1 pk2 : Nat → Int32} {cn : Int32} (h : OB PP1 PP2 mp pk1 pk2 cn) (n : Int32) : ∀ k : Nat, L_X8_countPages_4 PP2 mp n k = L_X8_countPages_4 PP1 mp n k := by
  intro k
  induction k with
  | zero => rfl
  | succ k ih =>
    show B_X8_countPages_4 PP2 mp n (L_X8_countPages_4 PP2 mp n k) = B_X8_countPages_4 PP1 mp n (L_X8_countPages_4 PP1 mp n k)
    rw [ih]
    funext z0 z1
    exact cg_B_X8_countPages_4 h _ _ _ _
set_option maxHeartbeats 1000000 in
theorem cg_F_X8_countPages {PP1 PP2 : List PG} {mp pk1 pk2 : Nat → Int32} {cn : Int32} (h : OB PP1 PP2 mp pk1 pk2 cn) (n : Int32) : F_X8_countPages PP2 mp n = F_X8_countPages PP1 mp n := by
  unfold F_X8_countPages
  simp only [h.1, h.2.1, h.2.2.1, h.2.2.2.1, h.2.2.2.2, cg_L_X8_countPages_4 h]
set_option maxHeartbeats 1000000 in
theorem cg_B_X8_haveSamePages_3 {PP1 PP2 : List PG} {mp pk1 pk2 : Nat → Int32} {cn : Int32} (h : OB PP1 PP2 mp pk1 pk2 cn) (ds : Nat → Int32) (n : Int32) (a1 : Int32) (a2 : Int32) (a3 : Int32) (rc_3 : Int32 → (Option (Int32) × Int32)) (x3_4 : Int32) : B_X8_haveSamePages_3 PP2 ds mp n a1 a2 a3 rc_3 x3_4 = B_X8_haveSamePages_3 PP1 ds mp n a1 a2 a3 rc_3 x3_4 := by
  unfold B_X8_haveSamePages_3
  simp only [h.1, h.2.1, h.2.2.1, h.2.2.2.1, h.2.2.2.2]
set_option maxHeartbeats 1000000 in
theorem cg_L_X8_haveSamePages_3 {PP1 PP2 : List PG} {mp pk1 pk2 : Nat → Int32} {cn : Int32} (h : OB PP1 PP2 mp pk1 pk2 cn) (ds : Nat → Int32) (n : Int32) (a1 : Int32) (a2 : Int32) (a3 : Int32) : ∀ k : Nat, L_X8_haveSamePages_3 PP2 ds mp n a1 a2 a3 k = L_X8_haveSamePages_3 PP1 ds mp n a1 a2 a3 k := by
  intro k
  induction k with
  | zero => rfl
  | succ k ih =>
    show B_X8_haveSamePages_3 PP2 ds mp n a1 a2 a3 (L_X8_haveSamePages_3 PP2 ds mp n a1 a2 a3 k) = B_X8_haveSamePages_3 PP1 ds mp n a1 a2 a3 (L_X8_haveSamePages_3 PP1 ds mp n a1 a2 a3 k)
    rw [ih]
    funext z0
    exact cg_B_X8_haveSamePages_3 h _ _ _ _ _ _ _
set_option maxHeartbeats 1000000 in
theorem cg_F_X8_haveSamePages {PP1 PP2 : List PG} {mp pk1 pk2 : Nat → Int32} {cn : Int32} (h : OB PP1 PP2 mp pk1 pk2 cn) (ds : Nat → Int32) (n : Int32) (a1 : Int32) (a2 : Int32) (a3 : Int32) : F_X8_haveSamePages PP2 ds mp n a1 a2 a3 = F_X8_haveSamePages PP1 ds mp n a1 a2 a3 := by
  unfold F_X8_haveSamePages
  simp only [h.1, h.2.1, h.2.2.1, h.2.2.2.1, h.2.2.2.2, cg_L_X8_haveSamePages_3 h]
set_option maxHeartbeats 1000000 in
theorem cg_B_X8_allHaveGreatest_49 {PP1 PP2 : List PG} {mp pk1 pk2 : Nat → Int32} {cn : Int32} (h : OB PP1 PP2 mp pk1 pk2 cn) (ds : Nat → Int32) (n : Int32) (a1 : Int32) (a2 : Int32) (x5_3 : Int32) (rc_49 : Int32 → (Option (Int32) × Int32)) (x49_4 : Int32) : B_X8_allHaveGreatest_49 PP2 ds mp n a1 a2 x5_3 rc_49 x49_4 = B_X8_allHaveGreatest_49 PP1 ds mp n a1 a2 x5_3 rc_49 x49_4 := by
  unfold B_X8_allHaveGreatest_49
  simp only [h.1, h.2.1, h.2.2.1, h.2.2.2.1, h.2.2.2.2]
set_option maxHeartbeats 1000000 in
theorem cg_L_X8_allHaveGreatest_49 {PP1 PP2 : List PG} {mp pk1 pk2 : Nat → Int32} {cn : Int32} (h : OB PP1 PP2 mp pk1 pk2 cn) (ds : Nat → Int32) (n : Int32) (a1 : Int32) (a2 : Int32) (x5_3 : Int32) : ∀ k : Nat, L_X8_allHaveGreatest_49 PP2 ds mp n a1 a2 x5_3 k = L_X8_allHaveGreatest_49 PP1 ds mp n a1 a2 x5_3 k := by
  intro k
  induction k with
  | zero => rfl
  | succ k ih =>
    show B_X8_allHaveGreatest_49 PP2 ds mp n a1 a2 x5_3 (L_X8_allHaveGreatest_49 PP2 ds mp n a1 a2 x5_3 k) = B_X8_allHaveGreatest_49 PP1 ds mp n a1 a2 x5_3 (L_X8_allHaveGreatest_49 PP1 ds mp n a1 a2 x5_3 k)
    rw [ih]
    funext z0
    exact cg_B_X8_allHaveGreatest_49 h _ _ _ _ _ _ _
set_option maxHeartbeats 1000000 in
theorem cg_B_X8_allHaveGreatest_5 {PP1 PP2 : List PG} {mp pk1 pk2 : Nat → Int32} {cn : Int32} (h : OB PP1 PP2 mp pk1 pk2 cn) (ds : Nat → Int32) (n : Int32) (a1 : Int32) (a2 : Int32) (rc_5 : Int32 → Int32 → (Int32 × Int32)) (x5_3 : Int32) (x5_4 : Int32) : B_X8_allHaveGreatest_5 PP2 ds mp n a1 a2 rc_5 x5_3 x5_4 = B_X8_allHaveGreatest_5 PP1 ds mp n a1 a2 rc_5 x5_3 x5_4 := by
  unfold B_X8_allHaveGreatest_5
  simp only [h.1, h.2.1, h.2.2.1, h.2.2.2.1, h.2.2.2.2]
set_option maxHeartbeats 1000000 in
theorem cg_L_X8_allHaveGreatest_5 {PP1 PP2 : List PG} {mp pk1 pk2 : Nat → Int32} {cn : Int32} (h : OB PP1 PP2 mp pk1 pk2 cn) (ds : Nat → Int32) (n : Int32) (a1 : Int32) (a2 : Int32) : ∀ k : Nat, L_X8_allHaveGreatest_5 PP2 ds mp n a1 a2 k = L_X8_allHaveGreatest_5 PP1 ds mp n a1 a2 k := by
  intro k
  induction k with
  | zero => rfl
  | succ k ih =>
    show B_X8_allHaveGreatest_5 PP2 ds mp n a1 a2 (L_X8_allHaveGreatest_5 PP2 ds mp n a1 a2 k) = B_X8_allHaveGreatest_5 PP1 ds mp n a1 a2 (L_X8_allHaveGreatest_5 PP1 ds mp n a1 a2 k)
    rw [ih]
    funext z0 z1
    exact cg_B_X8_allHaveGreatest_5 h _ _ _ _ _ _ _
set_option maxHeartbeats 1000000 in
theorem cg_K_X8_allHaveGreatest_5 {PP1 PP2 : List PG} {mp pk1 pk2 : Nat → Int32} {cn : Int32} (h : OB PP1 PP2 mp pk1 pk2 cn) (ds : Nat → Int32) (n : Int32) (a1 : Int32) (a2 : Int32) : ∀ r0, K_X8_allHaveGreatest_5 PP2 ds mp n a1 a2 r0 = K_X8_allHaveGreatest_5 PP1 ds mp n a1 a2 r0 := by
  intro r0
  rcases r0 with ⟨y0, y1⟩
  all_goals (unfold K_X8_allHaveGreatest_5; try simp only [h.1, h.2.1, h.2.2.1, h.2.2.2.1, h.2.2.2.2, cg_L_X8_allHaveGreatest_49 h])
set_option maxHeartbeats 1000000 in
theorem cg_F_X8_allHaveGreatest {PP1 PP2 : List PG} {mp pk1 pk2 : Nat → Int32} {cn : Int32} (h : OB PP1 PP2 mp pk1 pk2 cn) (ds : Nat → Int32) (n : Int32) (a1 : Int32) (a2 : Int32) : F_X8_allHaveGreatest PP2 ds mp n a1 a2 = F_X8_allHaveGreatest PP1 ds mp n a1 a2 := by
  unfold F_X8_allHaveGreatest
  simp only [h.1, h.2.1, h.2.2.1, h.2.2.2.1, h.2.2.2.2, cg_K_X8_allHaveGreatest_5 h, cg_L_X8_allHaveGreatest_5 h]
set_option maxHeartbeats 1000000 in
theorem cg_B_X8_countAhead_4 {PP1 PP2 : List PG} {mp pk1 pk2 : Nat → Int32} {cn : Int32} (h : OB PP1 PP2 mp pk1 pk2 cn) (ds : Nat → Int32) (cs : Nat → Int32) (n : Int32) (a1 : Int32) (rc_4 : Int32 → Int32 → (Int32 × Int32)) (x4_2 : Int32) (x4_3 : Int32) : B_X8_countAhead_4 PP2 ds cs mp n a1 rc_4 x4_2 x4_3 = B_X8_countAhead_4 PP1 ds cs mp n a1 rc_4 x4_2 x4_3 := by
  unfold B_X8_countAhead_4
  simp only [h.1, h.2.1, h.2.2.1, h.2.2.2.1, h.2.2.2.2]
set_option maxHeartbeats 1000000 in
theorem cg_L_X8_countAhead_4 {PP1 PP2 : List PG} {mp pk1 pk2 : Nat → Int32} {cn : Int32} (h : OB PP1 PP2 mp pk1 pk2 cn) (ds : Nat → Int32) (cs : Nat → Int32) (n : Int32) (a1 : Int32) : ∀ k : Nat, L_X8_countAhead_4 PP2 ds cs mp n a1 k = L_X8_countAhead_4 PP1 ds cs mp n a1 k := by
  intro k
  induction k with
  | zero => rfl
  | succ k ih =>
    show B_X8_countAhead_4 PP2 ds cs mp n a1 (L_X8_countAhead_4 PP2 ds cs mp n a1 k) = B_X8_countAhead_4 PP1 ds cs mp n a1 (L_X8_countAhead_4 PP1 ds cs mp n a1 k)
    rw [ih]
    funext z0 z1
    exact cg_B_X8_countAhead_4 h _ _ _ _ _ _ _
set_option maxHeartbeats 1000000 in
theorem cg_F_X8_countAhead {PP1 PP2 : List PG} {mp pk1 pk2 : Nat → Int32} {cn : Int32} (h : OB PP1 PP2 mp pk1 pk2 cn) (ds : Nat → Int32) (cs : Nat → Int32) (n : Int32) (a1 : Int32) : F_X8_countAhead PP2 ds cs mp n a1 = F_X8_countAhead PP1 ds cs mp n a1 := by
  unfold F_X8_countAhead
  simp only [h.1, h.2.1, h.2.2.1, h.2.2.2.1, h.2.2.2.2, cg_L_X8_countAhead_4 h]
set_option maxHeartbeats 1000000 in
theorem cg_B_X5_countTo_4 {PP1 PP2 : List PG} {mp pk1 pk2 : Nat → Int32} {cn : Int32} (h : OB PP1 PP2 mp pk1 pk2 cn) (a1 : Int32) (rc_4 : Int32 → Int32 → (Int32 × Int32)) (x4_2 : Int32) (x4_3 : Int32) : B_X5_countTo_4 pk2 cn a1 rc_4 x4_2 x4_3 = B_X5_countTo_4 pk1 cn a1 rc_4 x4_2 x4_3 := by
  unfold B_X5_countTo_4
  simp only [h.1, h.2.1, h.2.2.1, h.2.2.2.1, h.2.2.2.2]
set_option maxHeartbeats 1000000 in
theorem cg_L_X5_countTo_4 {PP1 PP2 : List PG} {mp pk1 pk2 : Nat → Int32} {cn : Int32} (h : OB PP1 PP2 mp pk1 pk2 cn) (a1 : Int32) : ∀ k : Nat, L_X5_countTo_4 pk2 cn a1 k = L_X5_countTo_4 pk1 cn a1 k := by
  intro k
  induction k with
  | zero => rfl
  | succ k ih =>
    show B_X5_countTo_4 pk2 cn a1 (L_X5_countTo_4 pk2 cn a1 k) = B_X5_countTo_4 pk1 cn a1 (L_X5_countTo_4 pk1 cn a1 k)
    rw [ih]
    funext z0 z1
    exact cg_B_X5_countTo_4 h _ _ _ _
set_option maxHeartbeats 1000000 in
theorem cg_F_X5_countTo {PP1 PP2 : List PG} {mp pk1 pk2 : Nat → Int32} {cn : Int32} (h : OB PP1 PP2 mp pk1 pk2 cn) (a1 : Int32) : F_X5_countTo pk2 cn a1 = F_X5_countTo pk1 cn a1 := by
  unfold F_X5_countTo
  simp only [h.1, h.2.1, h.2.2.1, h.2.2.2.1, h.2.2.2.2, cg_L_X5_countTo_4 h]
set_option maxHeartbeats 1000000 in
theorem cg_B_X9_takeMap_19 {PP1 PP2 : List PG} {mp pk1 pk2 : Nat → Int32} {cn : Int32} (h : OB PP1 PP2 mp pk1 pk2 cn) (a2 : Int32) (x2_3 : Int32) (rc_19 : Int32 → (Nat → Int32) → (Int32 × (Nat → Int32))) (x19_5 : Int32) (x19_h_wc : Nat → Int32) : B_X9_takeMap_19 PP2 mp a2 x2_3 rc_19 x19_5 x19_h_wc = B_X9_takeMap_19 PP1 mp a2 x2_3 rc_19 x19_5 x19_h_wc := by
  unfold B_X9_takeMap_19
  simp only [h.1, h.2.1, h.2.2.1, h.2.2.2.1, h.2.2.2.2]
set_option maxHeartbeats 1000000 in
theorem cg_L_X9_takeMap_19 {PP1 PP2 : List PG} {mp pk1 pk2 : Nat → Int32} {cn : Int32} (h : OB PP1 PP2 mp pk1 pk2 cn) (a2 : Int32) (x2_3 : Int32) : ∀ k : Nat, L_X9_takeMap_19 PP2 mp a2 x2_3 k = L_X9_takeMap_19 PP1 mp a2 x2_3 k := by
  intro k
  induction k with
  | zero => rfl
  | succ k ih =>
    show B_X9_takeMap_19 PP2 mp a2 x2_3 (L_X9_takeMap_19 PP2 mp a2 x2_3 k) = B_X9_takeMap_19 PP1 mp a2 x2_3 (L_X9_takeMap_19 PP1 mp a2 x2_3 k)
    rw [ih]
    funext z0 z1
    exact cg_B_X9_takeMap_19 h _ _ _ _ _
set_option maxHeartbeats 1000000 in
theorem cg_B_X9_takeMap_2 {PP1 PP2 : List PG} {mp pk1 pk2 : Nat → Int32} {cn : Int32} (h : OB PP1 PP2 mp pk1 pk2 cn) (a2 : Int32) (rc_2 : Int32 → (Nat → Int32) → (Int32 × (Nat → Int32))) (x2_3 : Int32) (x2_h_wc : Nat → Int32) : B_X9_takeMap_2 PP2 mp a2 rc_2 x2_3 x2_h_wc = B_X9_takeMap_2 PP1 mp a2 rc_2 x2_3 x2_h_wc := by
  unfold B_X9_takeMap_2
  simp only [h.1, h.2.1, h.2.2.1, h.2.2.2.1, h.2.2.2.2, cg_L_X9_takeMap_19 h]
set_option maxHeartbeats 1000000 in
theorem cg_L_X9_takeMap_2 {PP1 PP2 : List PG} {mp pk1 pk2 : Nat → Int32} {cn : Int32} (h : OB PP1 PP2 mp pk1 pk2 cn) (a2 : Int32) : ∀ k : Nat, L_X9_takeMap_2 PP2 mp a2 k = L_X9_takeMap_2 PP1 mp a2 k := by
  intro k
  induction k with
  | zero => rfl
  | succ k ih =>
    show B_X9_takeMap_2 PP2 mp a2 (L_X9_takeMap_2 PP2 mp a2 k) = B_X9_takeMap_2 PP1 mp a2 (L_X9_takeMap_2 PP1 mp a2 k)
    rw [ih]
    funext z0 z1
    exact cg_B_X9_takeMap_2 h _ _ _ _
set_option maxHeartbeats 1000000 in
theorem cg_F_X9_takeMap {PP1 PP2 : List PG} {mp pk1 pk2 : Nat → Int32} {cn : Int32} (h : OB PP1 PP2 mp pk1 pk2 cn) (wc : Nat → Int32) (a2 : Int32) : F_X9_takeMap wc PP2 mp a2 = F_X9_takeMap wc PP1 mp a2 := by
  unfold F_X9_takeMap
  simp only [h.1, h.2.1, h.2.2.1, h.2.2.2.1, h.2.2.2.2, cg_L_X9_takeMap_2 h]
set_option maxHeartbeats 1000000 in
theorem cg_F_X10_page {PP1 PP2 : List PG} {mp pk1 pk2 : Nat → Int32} {cn : Int32} (h : OB PP1 PP2 mp pk1 pk2 cn) (n : Int32) (tk : Int32) (a1 : Int32) (a2 : Int32) (a3 : Int32) : F_X10_page PP2 mp n tk a1 a2 a3 = F_X10_page PP1 mp n tk a1 a2 a3 := by
  unfold F_X10_page
  simp only [h.1, h.2.1, h.2.2.1, h.2.2.2.1, h.2.2.2.2]
set_option maxHeartbeats 1000000 in
theorem cg_F_X10_told {PP1 PP2 : List PG} {mp pk1 pk2 : Nat → Int32} {cn : Int32} (h : OB PP1 PP2 mp pk1 pk2 cn) (n : Int32) (a1 : Int32) (a2 : Int32) (a3 : Int32) : F_X10_told PP2 mp n a1 a2 a3 = F_X10_told PP1 mp n a1 a2 a3 := by
  unfold F_X10_told
  simp only [h.1, h.2.1, h.2.2.1, h.2.2.2.1, h.2.2.2.2]
set_option maxHeartbeats 1000000 in
theorem cg_F_X10_letter {PP1 PP2 : List PG} {mp pk1 pk2 : Nat → Int32} {cn : Int32} (h : OB PP1 PP2 mp pk1 pk2 cn) (a1 : Int32) (a2 : Int32) : F_X10_letter PP2 pk2 cn a1 a2 = F_X10_letter PP1 pk1 cn a1 a2 := by
  unfold F_X10_letter
  simp only [h.1, h.2.1, h.2.2.1, h.2.2.2.1, h.2.2.2.2]
set_option maxHeartbeats 1000000 in
theorem cg_F_X10_surveyorOf {PP1 PP2 : List PG} {mp pk1 pk2 : Nat → Int32} {cn : Int32} (h : OB PP1 PP2 mp pk1 pk2 cn) (ds : Nat → Int32) (cs : Nat → Int32) (n : Int32) (a1 : Int32) (a2 : Int32) : F_X10_surveyorOf PP2 ds cs mp pk2 cn n a1 a2 = F_X10_surveyorOf PP1 ds cs mp pk1 cn n a1 a2 := by
  unfold F_X10_surveyorOf
  simp only [h.1, h.2.1, h.2.2.1, h.2.2.2.1, h.2.2.2.2, cg_F_X5_countTo h, cg_F_X8_pagesIn h]
set_option maxHeartbeats 1000000 in
theorem cg_B_X10_busiest_2 {PP1 PP2 : List PG} {mp pk1 pk2 : Nat → Int32} {cn : Int32} (h : OB PP1 PP2 mp pk1 pk2 cn) (ds : Nat → Int32) (cs : Nat → Int32) (n : Int32) (a1 : Int32) (rc_2 : Int32 → (Option (Nat × Int32) × Int32)) (x2_2 : Int32) : B_X10_busiest_2 PP2 ds cs mp n a1 rc_2 x2_2 = B_X10_busiest_2 PP1 ds cs mp n a1 rc_2 x2_2 := by
  unfold B_X10_busiest_2
  simp only [h.1, h.2.1, h.2.2.1, h.2.2.2.1, h.2.2.2.2, cg_F_X8_countAhead h]
set_option maxHeartbeats 1000000 in
theorem cg_L_X10_busiest_2 {PP1 PP2 : List PG} {mp pk1 pk2 : Nat → Int32} {cn : Int32} (h : OB PP1 PP2 mp pk1 pk2 cn) (ds : Nat → Int32) (cs : Nat → Int32) (n : Int32) (a1 : Int32) : ∀ k : Nat, L_X10_busiest_2 PP2 ds cs mp n a1 k = L_X10_busiest_2 PP1 ds cs mp n a1 k := by
  intro k
  induction k with
  | zero => rfl
  | succ k ih =>
    show B_X10_busiest_2 PP2 ds cs mp n a1 (L_X10_busiest_2 PP2 ds cs mp n a1 k) = B_X10_busiest_2 PP1 ds cs mp n a1 (L_X10_busiest_2 PP1 ds cs mp n a1 k)
    rw [ih]
    funext z0
    exact cg_B_X10_busiest_2 h _ _ _ _ _ _
set_option maxHeartbeats 1000000 in
theorem cg_F_X10_busiest {PP1 PP2 : List PG} {mp pk1 pk2 : Nat → Int32} {cn : Int32} (h : OB PP1 PP2 mp pk1 pk2 cn) (ds : Nat → Int32) (cs : Nat → Int32) (n : Int32) (a1 : Int32) : F_X10_busiest PP2 ds cs mp n a1 = F_X10_busiest PP1 ds cs mp n a1 := by
  unfold F_X10_busiest
  simp only [h.1, h.2.1, h.2.2.1, h.2.2.2.1, h.2.2.2.2, cg_L_X10_busiest_2 h]
set_option maxHeartbeats 1000000 in
theorem cg_B_X10_agree_19 {PP1 PP2 : List PG} {mp pk1 pk2 : Nat → Int32} {cn : Int32} (h : OB PP1 PP2 mp pk1 pk2 cn) (ds : Nat → Int32) (n : Int32) (a1 : Int32) (x6_2 : Int32) (rc_19 : Int32 → (Option (Nat × Int32) × Int32)) (x19_3 : Int32) : B_X10_agree_19 PP2 ds mp n a1 x6_2 rc_19 x19_3 = B_X10_agree_19 PP1 ds mp n a1 x6_2 rc_19 x19_3 := by
  unfold B_X10_agree_19
  simp only [h.1, h.2.1, h.2.2.1, h.2.2.2.1, h.2.2.2.2, cg_F_X8_haveSamePages h]
set_option maxHeartbeats 1000000 in
theorem cg_L_X10_agree_19 {PP1 PP2 : List PG} {mp pk1 pk2 : Nat → Int32} {cn : Int32} (h : OB PP1 PP2 mp pk1 pk2 cn) (ds : Nat → Int32) (n : Int32) (a1 : Int32) (x6_2 : Int32) : ∀ k : Nat, L_X10_agree_19 PP2 ds mp n a1 x6_2 k = L_X10_agree_19 PP1 ds mp n a1 x6_2 k := by
  intro k
  induction k with
  | zero => rfl
  | succ k ih =>
    show B_X10_agree_19 PP2 ds mp n a1 x6_2 (L_X10_agree_19 PP2 ds mp n a1 x6_2 k) = B_X10_agree_19 PP1 ds mp n a1 x6_2 (L_X10_agree_19 PP1 ds mp n a1 x6_2 k)
    rw [ih]
    funext z0
    exact cg_B_X10_agree_19 h _ _ _ _ _ _
set_option maxHeartbeats 1000000 in
theorem cg_B_X10_agree_6 {PP1 PP2 : List PG} {mp pk1 pk2 : Nat → Int32} {cn : Int32} (h : OB PP1 PP2 mp pk1 pk2 cn) (ds : Nat → Int32) (n : Int32) (a1 : Int32) (rc_6 : Int32 → (Option (Nat × Int32) × Int32)) (x6_2 : Int32) : B_X10_agree_6 PP2 ds mp n a1 rc_6 x6_2 = B_X10_agree_6 PP1 ds mp n a1 rc_6 x6_2 := by
  unfold B_X10_agree_6
  simp only [h.1, h.2.1, h.2.2.1, h.2.2.2.1, h.2.2.2.2, cg_L_X10_agree_19 h]
set_option maxHeartbeats 1000000 in
theorem cg_L_X10_agree_6 {PP1 PP2 : List PG} {mp pk1 pk2 : Nat → Int32} {cn : Int32} (h : OB PP1 PP2 mp pk1 pk2 cn) (ds : Nat → Int32) (n : Int32) (a1 : Int32) : ∀ k : Nat, L_X10_agree_6 PP2 ds mp n a1 k = L_X10_agree_6 PP1 ds mp n a1 k := by
  intro k
  induction k with
  | zero => rfl
  | succ k ih =>
    show B_X10_agree_6 PP2 ds mp n a1 (L_X10_agree_6 PP2 ds mp n a1 k) = B_X10_agree_6 PP1 ds mp n a1 (L_X10_agree_6 PP1 ds mp n a1 k)
    rw [ih]
    funext z0
    exact cg_B_X10_agree_6 h _ _ _ _ _
set_option maxHeartbeats 1000000 in
theorem cg_F_X10_agree {PP1 PP2 : List PG} {mp pk1 pk2 : Nat → Int32} {cn : Int32} (h : OB PP1 PP2 mp pk1 pk2 cn) (ds : Nat → Int32) (n : Int32) (a1 : Int32) : F_X10_agree PP2 ds mp n a1 = F_X10_agree PP1 ds mp n a1 := by
  unfold F_X10_agree
  simp only [h.1, h.2.1, h.2.2.1, h.2.2.2.1, h.2.2.2.2, cg_L_X10_agree_6 h]
set_option maxHeartbeats 1000000 in
theorem cg_B_X10_agreeAgain_6 {PP1 PP2 : List PG} {mp pk1 pk2 : Nat → Int32} {cn : Int32} (h : OB PP1 PP2 mp pk1 pk2 cn) (ds : Nat → Int32) (n : Int32) (a1 : Int32) (rc_6 : Int32 → (Option (Nat × Int32) × Int32)) (x6_2 : Int32) : B_X10_agreeAgain_6 PP2 ds mp n a1 rc_6 x6_2 = B_X10_agreeAgain_6 PP1 ds mp n a1 rc_6 x6_2 := by
  unfold B_X10_agreeAgain_6
  simp only [h.1, h.2.1, h.2.2.1, h.2.2.2.1, h.2.2.2.2, cg_F_X8_allHaveGreatest h]
set_option maxHeartbeats 1000000 in
theorem cg_L_X10_agreeAgain_6 {PP1 PP2 : List PG} {mp pk1 pk2 : Nat → Int32} {cn : Int32} (h : OB PP1 PP2 mp pk1 pk2 cn) (ds : Nat → Int32) (n : Int32) (a1 : Int32) : ∀ k : Nat, L_X10_agreeAgain_6 PP2 ds mp n a1 k = L_X10_agreeAgain_6 PP1 ds mp n a1 k := by
  intro k
  induction k with
  | zero => rfl
  | succ k ih =>
    show B_X10_agreeAgain_6 PP2 ds mp n a1 (L_X10_agreeAgain_6 PP2 ds mp n a1 k) = B_X10_agreeAgain_6 PP1 ds mp n a1 (L_X10_agreeAgain_6 PP1 ds mp n a1 k)
    rw [ih]
    funext z0
    exact cg_B_X10_agreeAgain_6 h _ _ _ _ _
set_option maxHeartbeats 1000000 in
theorem cg_F_X10_agreeAgain {PP1 PP2 : List PG} {mp pk1 pk2 : Nat → Int32} {cn : Int32} (h : OB PP1 PP2 mp pk1 pk2 cn) (ds : Nat → Int32) (n : Int32) (a1 : Int32) : F_X10_agreeAgain PP2 ds mp n a1 = F_X10_agreeAgain PP1 ds mp n a1 := by
  unfold F_X10_agreeAgain
  simp only [h.1, h.2.1, h.2.2.1, h.2.2.2.1, h.2.2.2.2, cg_L_X10_agreeAgain_6 h]
set_option maxHeartbeats 1000000 in
theorem cg_F_X10_account {PP1 PP2 : List PG} {mp pk1 pk2 : Nat → Int32} {cn : Int32} (h : OB PP1 PP2 mp pk1 pk2 cn) (cs : Nat → Int32) (sn : Int32) (n : Int32) (tk : Int32) (av : Int32) (lo : Int32) (md : Int32) (hct : Int32) (ln : Int32) (a1 : Int32) : F_X10_account PP2 cs mp cn sn n tk av lo md hct ln a1 = F_X10_account PP1 cs mp cn sn n tk av lo md hct ln a1 := by
  unfold F_X10_account
  simp only [h.1, h.2.1, h.2.2.1, h.2.2.2.1, h.2.2.2.2, cg_F_X8_countPages h]
set_option maxHeartbeats 1000000 in
theorem cg_F_X10_distance {PP1 PP2 : List PG} {mp pk1 pk2 : Nat → Int32} {cn : Int32} (h : OB PP1 PP2 mp pk1 pk2 cn) (n : Int32) (wc : Nat → Int32) (wd : Nat → Int32) (a1 : Int32) (a2 : Int32) : F_X10_distance PP2 mp n wc wd a1 a2 = F_X10_distance PP1 mp n wc wd a1 a2 := by
  unfold F_X10_distance
  simp only [h.1, h.2.1, h.2.2.1, h.2.2.2.1, h.2.2.2.2, cg_F_X9_takeMap h]
set_option maxHeartbeats 1000000 in
theorem cg_F_X10_distanceAgain {PP1 PP2 : List PG} {mp pk1 pk2 : Nat → Int32} {cn : Int32} (h : OB PP1 PP2 mp pk1 pk2 cn) (n : Int32) (wc : Nat → Int32) (wd : Nat → Int32) (a1 : Int32) (a2 : Int32) : F_X10_distanceAgain PP2 mp n wc wd a1 a2 = F_X10_distanceAgain PP1 mp n wc wd a1 a2 := by
  unfold F_X10_distanceAgain
  simp only [h.1, h.2.1, h.2.2.1, h.2.2.2.1, h.2.2.2.2, cg_F_X9_takeMap h]
set_option maxHeartbeats 1000000 in
theorem cg_F_X10_nextByMap {PP1 PP2 : List PG} {mp pk1 pk2 : Nat → Int32} {cn : Int32} (h : OB PP1 PP2 mp pk1 pk2 cn) (wc : Nat → Int32) (wd : Nat → Int32) (a1 : Int32) (a2 : Int32) : F_X10_nextByMap PP2 mp wc wd a1 a2 = F_X10_nextByMap PP1 mp wc wd a1 a2 := by
  unfold F_X10_nextByMap
  simp only [h.1, h.2.1, h.2.2.1, h.2.2.2.1, h.2.2.2.2, cg_F_X9_takeMap h]
set_option maxHeartbeats 1000000 in
theorem cg_F_X10_next {PP1 PP2 : List PG} {mp pk1 pk2 : Nat → Int32} {cn : Int32} (h : OB PP1 PP2 mp pk1 pk2 cn) (n : Int32) (wc : Nat → Int32) (wd : Nat → Int32) (a1 : Int32) (a2 : Int32) : F_X10_next PP2 mp n wc wd a1 a2 = F_X10_next PP1 mp n wc wd a1 a2 := by
  unfold F_X10_next
  simp only [h.1, h.2.1, h.2.2.1, h.2.2.2.1, h.2.2.2.2, cg_F_X10_nextByMap h]
set_option maxHeartbeats 1000000 in
theorem cg_B_X10_reached_29 {PP1 PP2 : List PG} {mp pk1 pk2 : Nat → Int32} {cn : Int32} (h : OB PP1 PP2 mp pk1 pk2 cn) (wc : Nat → Int32) (wd : Nat → Int32) (a1 : Int32) (rc_29 : Int32 → Int32 → (Int32 × Int32)) (x29_2 : Int32) (x29_3 : Int32) : B_X10_reached_29 PP2 mp wc wd a1 rc_29 x29_2 x29_3 = B_X10_reached_29 PP1 mp wc wd a1 rc_29 x29_2 x29_3 := by
  unfold B_X10_reached_29
  simp only [h.1, h.2.1, h.2.2.1, h.2.2.2.1, h.2.2.2.2, cg_F_X9_takeMap h]
set_option maxHeartbeats 1000000 in
theorem cg_L_X10_reached_29 {PP1 PP2 : List PG} {mp pk1 pk2 : Nat → Int32} {cn : Int32} (h : OB PP1 PP2 mp pk1 pk2 cn) (wc : Nat → Int32) (wd : Nat → Int32) (a1 : Int32) : ∀ k : Nat, L_X10_reached_29 PP2 mp wc wd a1 k = L_X10_reached_29 PP1 mp wc wd a1 k := by
  intro k
  induction k with
  | zero => rfl
  | succ k ih =>
    show B_X10_reached_29 PP2 mp wc wd a1 (L_X10_reached_29 PP2 mp wc wd a1 k) = B_X10_reached_29 PP1 mp wc wd a1 (L_X10_reached_29 PP1 mp wc wd a1 k)
    rw [ih]
    funext z0 z1
    exact cg_B_X10_reached_29 h _ _ _ _ _ _
set_option maxHeartbeats 1000000 in
theorem cg_K_X10_reached_29 {PP1 PP2 : List PG} {mp pk1 pk2 : Nat → Int32} {cn : Int32} (h : OB PP1 PP2 mp pk1 pk2 cn) (wc : Nat → Int32) (wd : Nat → Int32) (a1 : Int32) : ∀ r0, K_X10_reached_29 PP2 mp wc wd a1 r0 = K_X10_reached_29 PP1 mp wc wd a1 r0 := by
  intro r0
  rcases r0 with ⟨y0, y1⟩
  all_goals (unfold K_X10_reached_29; try simp only [h.1, h.2.1, h.2.2.1, h.2.2.2.1, h.2.2.2.2, cg_F_X9_takeMap h])
set_option maxHeartbeats 1000000 in
theorem cg_F_X10_reached {PP1 PP2 : List PG} {mp pk1 pk2 : Nat → Int32} {cn : Int32} (h : OB PP1 PP2 mp pk1 pk2 cn) (n : Int32) (wc : Nat → Int32) (wd : Nat → Int32) (a1 : Int32) : F_X10_reached PP2 mp n wc wd a1 = F_X10_reached PP1 mp n wc wd a1 := by
  unfold F_X10_reached
  simp only [h.1, h.2.1, h.2.2.1, h.2.2.2.1, h.2.2.2.2, cg_K_X10_reached_29 h, cg_L_X10_reached_29 h]
set_option maxHeartbeats 1000000 in
theorem cg_B_X10_follow_23 {PP1 PP2 : List PG} {mp pk1 pk2 : Nat → Int32} {cn : Int32} (h : OB PP1 PP2 mp pk1 pk2 cn) (cs : Nat → Int32) (a2 : Int32) (rc_23 : Int32 → Int32 → Int32 → Int32 → (Nat → Int32) → (Nat → Int32) → (Option (Nat × Int32 × (Nat → Int32) × (Nat → Int32)) × Int32 × Int32 × Int32 × Int32 × (Nat → Int32) × (Nat → Int32))) (x23_3 : Int32) (x23_4 : Int32) (x23_5 : Int32) (x23_6 : Int32) (x23_h_wc : Nat → Int32) (x23_h_wd : Nat → Int32) : B_X10_follow_23 PP2 cs mp a2 rc_23 x23_3 x23_4 x23_5 x23_6 x23_h_wc x23_h_wd = B_X10_follow_23 PP1 cs mp a2 rc_23 x23_3 x23_4 x23_5 x23_6 x23_h_wc x23_h_wd := by
  unfold B_X10_follow_23
  simp only [h.1, h.2.1, h.2.2.1, h.2.2.2.1, h.2.2.2.2, cg_F_X10_nextByMap h]
set_option maxHeartbeats 1000000 in
theorem cg_L_X10_follow_23 {PP1 PP2 : List PG} {mp pk1 pk2 : Nat → Int32} {cn : Int32} (h : OB PP1 PP2 mp pk1 pk2 cn) (cs : Nat → Int32) (a2 : Int32) : ∀ k : Nat, L_X10_follow_23 PP2 cs mp a2 k = L_X10_follow_23 PP1 cs mp a2 k := by
  intro k
  induction k with
  | zero => rfl
  | succ k ih =>
    show B_X10_follow_23 PP2 cs mp a2 (L_X10_follow_23 PP2 cs mp a2 k) = B_X10_follow_23 PP1 cs mp a2 (L_X10_follow_23 PP1 cs mp a2 k)
    rw [ih]
    funext z0 z1 z2 z3 z4 z5
    exact cg_B_X10_follow_23 h _ _ _ _ _ _ _ _ _
set_option maxHeartbeats 1000000 in
theorem cg_F_X10_follow {PP1 PP2 : List PG} {mp pk1 pk2 : Nat → Int32} {cn : Int32} (h : OB PP1 PP2 mp pk1 pk2 cn) (cs : Nat → Int32) (n : Int32) (wc : Nat → Int32) (wd : Nat → Int32) (a1 : Int32) (a2 : Int32) : F_X10_follow PP2 cs mp n wc wd a1 a2 = F_X10_follow PP1 cs mp n wc wd a1 a2 := by
  unfold F_X10_follow
  simp only [h.1, h.2.1, h.2.2.1, h.2.2.2.1, h.2.2.2.2, cg_L_X10_follow_23 h]
set_option maxHeartbeats 1000000 in
theorem cg_B_X10_isRight_76 {PP1 PP2 : List PG} {mp pk1 pk2 : Nat → Int32} {cn : Int32} (h : OB PP1 PP2 mp pk1 pk2 cn) (ds : Nat → Int32) (cs : Nat → Int32) (n : Int32) (wc : Nat → Int32) (wd : Nat → Int32) (a1 : Int32) (x32_q_p7 : Nat → Int32) (rc_76 : Int32 → (Option (Nat × Int32 × (Nat → Int32) × (Nat → Int32)) × Int32)) (x76_3 : Int32) : B_X10_isRight_76 PP2 ds cs mp n wc wd a1 x32_q_p7 rc_76 x76_3 = B_X10_isRight_76 PP1 ds cs mp n wc wd a1 x32_q_p7 rc_76 x76_3 := by
  unfold B_X10_isRight_76
  simp only [h.1, h.2.1, h.2.2.1, h.2.2.2.1, h.2.2.2.2, cg_F_X9_takeMap h]
set_option maxHeartbeats 1000000 in
theorem cg_L_X10_isRight_76 {PP1 PP2 : List PG} {mp pk1 pk2 : Nat → Int32} {cn : Int32} (h : OB PP1 PP2 mp pk1 pk2 cn) (ds : Nat → Int32) (cs : Nat → Int32) (n : Int32) (wc : Nat → Int32) (wd : Nat → Int32) (a1 : Int32) (x32_q_p7 : Nat → Int32) : ∀ k : Nat, L_X10_isRight_76 PP2 ds cs mp n wc wd a1 x32_q_p7 k = L_X10_isRight_76 PP1 ds cs mp n wc wd a1 x32_q_p7 k := by
  intro k
  induction k with
  | zero => rfl
  | succ k ih =>
    show B_X10_isRight_76 PP2 ds cs mp n wc wd a1 x32_q_p7 (L_X10_isRight_76 PP2 ds cs mp n wc wd a1 x32_q_p7 k) = B_X10_isRight_76 PP1 ds cs mp n wc wd a1 x32_q_p7 (L_X10_isRight_76 PP1 ds cs mp n wc wd a1 x32_q_p7 k)
    rw [ih]
    funext z0
    exact cg_B_X10_isRight_76 h _ _ _ _ _ _ _ _ _
set_option maxHeartbeats 1000000 in
theorem cg_K_X10_isRight_76 {PP1 PP2 : List PG} {mp pk1 pk2 : Nat → Int32} {cn : Int32} (h : OB PP1 PP2 mp pk1 pk2 cn) (ds : Nat → Int32) (cs : Nat → Int32) (n : Int32) (wc : Nat → Int32) (wd : Nat → Int32) (a1 : Int32) : ∀ r0, K_X10_isRight_76 PP2 ds cs mp n wc wd a1 r0 = K_X10_isRight_76 PP1 ds cs mp n wc wd a1 r0 := by
  intro r0
  rcases r0 with ⟨(_ | r), y1⟩
  all_goals (unfold K_X10_isRight_76; try simp only [h.1, h.2.1, h.2.2.1, h.2.2.2.1, h.2.2.2.2, cg_F_X9_takeMap h])
set_option maxHeartbeats 1000000 in
theorem cg_B_X10_isRight_32 {PP1 PP2 : List PG} {mp pk1 pk2 : Nat → Int32} {cn : Int32} (h : OB PP1 PP2 mp pk1 pk2 cn) (wc : Nat → Int32) (wd : Nat → Int32) (a1 : Int32) (rc_32 : Int32 → (Nat → Int32) → (Int32 × (Nat → Int32))) (x32_3 : Int32) (x32_q_p7 : Nat → Int32) : B_X10_isRight_32 PP2 mp wc wd a1 rc_32 x32_3 x32_q_p7 = B_X10_isRight_32 PP1 mp wc wd a1 rc_32 x32_3 x32_q_p7 := by
  unfold B_X10_isRight_32
  simp only [h.1, h.2.1, h.2.2.1, h.2.2.2.1, h.2.2.2.2, cg_F_X9_takeMap h]
set_option maxHeartbeats 1000000 in
theorem cg_L_X10_isRight_32 {PP1 PP2 : List PG} {mp pk1 pk2 : Nat → Int32} {cn : Int32} (h : OB PP1 PP2 mp pk1 pk2 cn) (wc : Nat → Int32) (wd : Nat → Int32) (a1 : Int32) : ∀ k : Nat, L_X10_isRight_32 PP2 mp wc wd a1 k = L_X10_isRight_32 PP1 mp wc wd a1 k := by
  intro k
  induction k with
  | zero => rfl
  | succ k ih =>
    show B_X10_isRight_32 PP2 mp wc wd a1 (L_X10_isRight_32 PP2 mp wc wd a1 k) = B_X10_isRight_32 PP1 mp wc wd a1 (L_X10_isRight_32 PP1 mp wc wd a1 k)
    rw [ih]
    funext z0 z1
    exact cg_B_X10_isRight_32 h _ _ _ _ _ _
set_option maxHeartbeats 1000000 in
theorem cg_K_X10_isRight_32 {PP1 PP2 : List PG} {mp pk1 pk2 : Nat → Int32} {cn : Int32} (h : OB PP1 PP2 mp pk1 pk2 cn) (ds : Nat → Int32) (cs : Nat → Int32) (n : Int32) (wc : Nat → Int32) (wd : Nat → Int32) (a1 : Int32) : ∀ r0, K_X10_isRight_32 PP2 ds cs mp n wc wd a1 r0 = K_X10_isRight_32 PP1 ds cs mp n wc wd a1 r0 := by
  intro r0
  rcases r0 with ⟨y0, y1⟩
  all_goals (unfold K_X10_isRight_32; try simp only [h.1, h.2.1, h.2.2.1, h.2.2.2.1, h.2.2.2.2, cg_K_X10_isRight_76 h, cg_L_X10_isRight_76 h])
set_option maxHeartbeats 1000000 in
theorem cg_F_X10_isRight {PP1 PP2 : List PG} {mp pk1 pk2 : Nat → Int32} {cn : Int32} (h : OB PP1 PP2 mp pk1 pk2 cn) (ds : Nat → Int32) (cs : Nat → Int32) (n : Int32) (wc : Nat → Int32) (wd : Nat → Int32) (a1 : Int32) : F_X10_isRight PP2 ds cs mp n wc wd a1 = F_X10_isRight PP1 ds cs mp n wc wd a1 := by
  unfold F_X10_isRight
  simp only [h.1, h.2.1, h.2.2.1, h.2.2.2.1, h.2.2.2.2, cg_K_X10_isRight_32 h, cg_L_X10_isRight_32 h]
set_option maxHeartbeats 1000000 in
theorem cg_K_X10_writePage_77 {PP1 PP2 : List PG} {mp pk1 pk2 : Nat → Int32} {cn : Int32} (h : OB PP1 PP2 mp pk1 pk2 cn) (a1 : Nat) (x46_2 : Int32) (x46_h_B_3 : Int32) (x46_h_wb_n : Nat) (x46_h_wb : Nat → Int32) (x46_nc : Nat) (x46_ns : Nat) (rc_46 : Int32 → Int32 → Nat → (Nat → Int32) → Nat → Nat → (Int32 × Int32 × Nat × (Nat → Int32) × Nat × Nat)) (y68_3 : Nat) (y68_4 : Nat) (y72_3 : Nat) (y72_4 : Nat) (hq : pgd PP2 a1 = pgd PP1 a1) : ∀ r0, K_X10_writePage_77 PP2 a1 x46_2 x46_h_B_3 x46_h_wb_n x46_h_wb x46_nc x46_ns rc_46 y68_3 y68_4 y72_3 y72_4 r0 = K_X10_writePage_77 PP1 a1 x46_2 x46_h_B_3 x46_h_wb_n x46_h_wb x46_nc x46_ns rc_46 y68_3 y68_4 y72_3 y72_4 r0 := by
  intro r0
  rcases r0 with ⟨y0, y1, y2, y3, y4⟩
  all_goals (unfold K_X10_writePage_77; try simp only [h.1, h.2.1, h.2.2.1, h.2.2.2.1, h.2.2.2.2, hq])
set_option maxHeartbeats 1000000 in
theorem cg_K_X10_writePage_72 {PP1 PP2 : List PG} {mp pk1 pk2 : Nat → Int32} {cn : Int32} (h : OB PP1 PP2 mp pk1 pk2 cn) (a1 : Nat) (x46_2 : Int32) (x46_h_B_3 : Int32) (x46_h_wb_n : Nat) (x46_h_wb : Nat → Int32) (x46_nc : Nat) (x46_ns : Nat) (rc_46 : Int32 → Int32 → Nat → (Nat → Int32) → Nat → Nat → (Int32 × Int32 × Nat × (Nat → Int32) × Nat × Nat)) (y68_3 : Nat) (y68_4 : Nat) (hq : pgd PP2 a1 = pgd PP1 a1) : ∀ r0, K_X10_writePage_72 PP2 a1 x46_2 x46_h_B_3 x46_h_wb_n x46_h_wb x46_nc x46_ns rc_46 y68_3 y68_4 r0 = K_X10_writePage_72 PP1 a1 x46_2 x46_h_B_3 x46_h_wb_n x46_h_wb x46_nc x46_ns rc_46 y68_3 y68_4 r0 := by
  intro r0
  rcases r0 with ⟨y0, y1, y2, y3, y4⟩
  all_goals (unfold K_X10_writePage_72; try simp only [h.1, h.2.1, h.2.2.1, h.2.2.2.1, h.2.2.2.2, cg_K_X10_writePage_77 h, hq])
set_option maxHeartbeats 1000000 in
theorem cg_K_X10_writePage_68 {PP1 PP2 : List PG} {mp pk1 pk2 : Nat → Int32} {cn : Int32} (h : OB PP1 PP2 mp pk1 pk2 cn) (a1 : Nat) (x46_2 : Int32) (x46_h_B_3 : Int32) (x46_h_wb_n : Nat) (x46_h_wb : Nat → Int32) (x46_nc : Nat) (x46_ns : Nat) (rc_46 : Int32 → Int32 → Nat → (Nat → Int32) → Nat → Nat → (Int32 × Int32 × Nat × (Nat → Int32) × Nat × Nat)) (hq : pgd PP2 a1 = pgd PP1 a1) : ∀ r0, K_X10_writePage_68 PP2 a1 x46_2 x46_h_B_3 x46_h_wb_n x46_h_wb x46_nc x46_ns rc_46 r0 = K_X10_writePage_68 PP1 a1 x46_2 x46_h_B_3 x46_h_wb_n x46_h_wb x46_nc x46_ns rc_46 r0 := by
  intro r0
  rcases r0 with ⟨y0, y1, y2, y3, y4⟩
  all_goals (unfold K_X10_writePage_68; try simp only [h.1, h.2.1, h.2.2.1, h.2.2.2.1, h.2.2.2.2, cg_K_X10_writePage_72 h, hq])
set_option maxHeartbeats 1000000 in
theorem cg_B_X10_writePage_46 {PP1 PP2 : List PG} {mp pk1 pk2 : Nat → Int32} {cn : Int32} (h : OB PP1 PP2 mp pk1 pk2 cn) (a1 : Nat) (rc_46 : Int32 → Int32 → Nat → (Nat → Int32) → Nat → Nat → (Int32 × Int32 × Nat × (Nat → Int32) × Nat × Nat)) (x46_2 : Int32) (x46_h_B_3 : Int32) (x46_h_wb_n : Nat) (x46_h_wb : Nat → Int32) (x46_nc : Nat) (x46_ns : Nat) (hq : pgd PP2 a1 = pgd PP1 a1) : B_X10_writePage_46 PP2 a1 rc_46 x46_2 x46_h_B_3 x46_h_wb_n x46_h_wb x46_nc x46_ns = B_X10_writePage_46 PP1 a1 rc_46 x46_2 x46_h_B_3 x46_h_wb_n x46_h_wb x46_nc x46_ns := by
  unfold B_X10_writePage_46
  simp only [h.1, h.2.1, h.2.2.1, h.2.2.2.1, h.2.2.2.2, cg_K_X10_writePage_68 h, hq]
set_option maxHeartbeats 1000000 in
theorem cg_L_X10_writePage_46 {PP1 PP2 : List PG} {mp pk1 pk2 : Nat → Int32} {cn : Int32} (h : OB PP1 PP2 mp pk1 pk2 cn) (a1 : Nat) (hq : pgd PP2 a1 = pgd PP1 a1) : ∀ k : Nat, L_X10_writePage_46 PP2 a1 k = L_X10_writePage_46 PP1 a1 k := by
  intro k
  induction k with
  | zero => rfl
  | succ k ih =>
    show B_X10_writePage_46 PP2 a1 (L_X10_writePage_46 PP2 a1 k) = B_X10_writePage_46 PP1 a1 (L_X10_writePage_46 PP1 a1 k)
    rw [ih]
    funext z0 z1 z2 z3 z4 z5
    exact cg_B_X10_writePage_46 h _ _ _ _ _ _ _ _ hq
set_option maxHeartbeats 1000000 in
theorem cg_K_X10_writePage_40 {PP1 PP2 : List PG} {mp pk1 pk2 : Nat → Int32} {cn : Int32} (h : OB PP1 PP2 mp pk1 pk2 cn) (a1 : Nat) (y28_3 : Nat) (y28_4 : Nat) (y33_3 : Nat) (y33_4 : Nat) (hq : pgd PP2 a1 = pgd PP1 a1) : ∀ r0, K_X10_writePage_40 PP2 a1 y28_3 y28_4 y33_3 y33_4 r0 = K_X10_writePage_40 PP1 a1 y28_3 y28_4 y33_3 y33_4 r0 := by
  intro r0
  rcases r0 with ⟨y0, y1, y2, y3, y4⟩
  all_goals (unfold K_X10_writePage_40; try simp only [h.1, h.2.1, h.2.2.1, h.2.2.2.1, h.2.2.2.2, cg_L_X10_writePage_46 h, hq])
set_option maxHeartbeats 1000000 in
theorem cg_K_X10_writePage_33 {PP1 PP2 : List PG} {mp pk1 pk2 : Nat → Int32} {cn : Int32} (h : OB PP1 PP2 mp pk1 pk2 cn) (a1 : Nat) (y28_3 : Nat) (y28_4 : Nat) (hq : pgd PP2 a1 = pgd PP1 a1) : ∀ r0, K_X10_writePage_33 PP2 a1 y28_3 y28_4 r0 = K_X10_writePage_33 PP1 a1 y28_3 y28_4 r0 := by
  intro r0
  rcases r0 with ⟨y0, y1, y2, y3, y4⟩
  all_goals (unfold K_X10_writePage_33; try simp only [h.1, h.2.1, h.2.2.1, h.2.2.2.1, h.2.2.2.2, cg_K_X10_writePage_40 h, hq])
set_option maxHeartbeats 1000000 in
theorem cg_K_X10_writePage_28 {PP1 PP2 : List PG} {mp pk1 pk2 : Nat → Int32} {cn : Int32} (h : OB PP1 PP2 mp pk1 pk2 cn) (a1 : Nat) (hq : pgd PP2 a1 = pgd PP1 a1) : ∀ r0, K_X10_writePage_28 PP2 a1 r0 = K_X10_writePage_28 PP1 a1 r0 := by
  intro r0
  rcases r0 with ⟨y0, y1, y2, y3, y4⟩
  all_goals (unfold K_X10_writePage_28; try simp only [h.1, h.2.1, h.2.2.1, h.2.2.2.1, h.2.2.2.2, cg_K_X10_writePage_33 h, hq])
set_option maxHeartbeats 1000000 in
theorem cg_K_X10_writePage_40_1 {PP1 PP2 : List PG} {mp pk1 pk2 : Nat → Int32} {cn : Int32} (h : OB PP1 PP2 mp pk1 pk2 cn) (a1 : Nat) (y16_3 : Nat) (y16_4 : Nat) (y28_3 : Nat) (y28_4 : Nat) (y33_3 : Nat) (y33_4 : Nat) (hq : pgd PP2 a1 = pgd PP1 a1) : ∀ r0, K_X10_writePage_40_1 PP2 a1 y16_3 y16_4 y28_3 y28_4 y33_3 y33_4 r0 = K_X10_writePage_40_1 PP1 a1 y16_3 y16_4 y28_3 y28_4 y33_3 y33_4 r0 := by
  intro r0
  rcases r0 with ⟨y0, y1, y2, y3, y4⟩
  all_goals (unfold K_X10_writePage_40_1; try simp only [h.1, h.2.1, h.2.2.1, h.2.2.2.1, h.2.2.2.2, cg_L_X10_writePage_46 h, hq])
set_option maxHeartbeats 1000000 in
theorem cg_K_X10_writePage_33_1 {PP1 PP2 : List PG} {mp pk1 pk2 : Nat → Int32} {cn : Int32} (h : OB PP1 PP2 mp pk1 pk2 cn) (a1 : Nat) (y16_3 : Nat) (y16_4 : Nat) (y28_3 : Nat) (y28_4 : Nat) (hq : pgd PP2 a1 = pgd PP1 a1) : ∀ r0, K_X10_writePage_33_1 PP2 a1 y16_3 y16_4 y28_3 y28_4 r0 = K_X10_writePage_33_1 PP1 a1 y16_3 y16_4 y28_3 y28_4 r0 := by
  intro r0
  rcases r0 with ⟨y0, y1, y2, y3, y4⟩
  all_goals (unfold K_X10_writePage_33_1; try simp only [h.1, h.2.1, h.2.2.1, h.2.2.2.1, h.2.2.2.2, cg_K_X10_writePage_40_1 h, hq])
set_option maxHeartbeats 1000000 in
theorem cg_K_X10_writePage_28_1 {PP1 PP2 : List PG} {mp pk1 pk2 : Nat → Int32} {cn : Int32} (h : OB PP1 PP2 mp pk1 pk2 cn) (a1 : Nat) (y16_3 : Nat) (y16_4 : Nat) (hq : pgd PP2 a1 = pgd PP1 a1) : ∀ r0, K_X10_writePage_28_1 PP2 a1 y16_3 y16_4 r0 = K_X10_writePage_28_1 PP1 a1 y16_3 y16_4 r0 := by
  intro r0
  rcases r0 with ⟨y0, y1, y2, y3, y4⟩
  all_goals (unfold K_X10_writePage_28_1; try simp only [h.1, h.2.1, h.2.2.1, h.2.2.2.1, h.2.2.2.2, cg_K_X10_writePage_33_1 h, hq])
set_option maxHeartbeats 1000000 in
theorem cg_K_X10_writePage_16 {PP1 PP2 : List PG} {mp pk1 pk2 : Nat → Int32} {cn : Int32} (h : OB PP1 PP2 mp pk1 pk2 cn) (a1 : Nat) (hq : pgd PP2 a1 = pgd PP1 a1) : ∀ r0, K_X10_writePage_16 PP2 a1 r0 = K_X10_writePage_16 PP1 a1 r0 := by
  intro r0
  rcases r0 with ⟨y0, y1, y2, y3, y4⟩
  all_goals (unfold K_X10_writePage_16; try simp only [h.1, h.2.1, h.2.2.1, h.2.2.2.1, h.2.2.2.2, cg_K_X10_writePage_28_1 h, hq])
set_option maxHeartbeats 1000000 in
theorem cg_F_X10_writePage {PP1 PP2 : List PG} {mp pk1 pk2 : Nat → Int32} {cn : Int32} (h : OB PP1 PP2 mp pk1 pk2 cn) (wb : Nat → Int32) (capw : Nat) (wn : Int32) (a1 : Nat) (hq : pgd PP2 a1 = pgd PP1 a1) : F_X10_writePage PP2 wb capw wn a1 = F_X10_writePage PP1 wb capw wn a1 := by
  unfold F_X10_writePage
  simp only [h.1, h.2.1, h.2.2.1, h.2.2.2.1, h.2.2.2.2, cg_K_X10_writePage_16 h, cg_K_X10_writePage_28 h, hq]
set_option maxHeartbeats 1000000 in
theorem cg_B_X10_line_15 {PP1 PP2 : List PG} {mp pk1 pk2 : Nat → Int32} {cn : Int32} (h : OB PP1 PP2 mp pk1 pk2 cn) (n : Int32) (a1 : Int32) (rc_15 : Int32 → Int32 → Nat → (Nat → Int32) → Nat → Nat → (Int32 × Int32 × Nat × (Nat → Int32) × Nat × Nat)) (x15_2 : Int32) (x15_h_B_3 : Int32) (x15_h_wb_n : Nat) (x15_h_wb : Nat → Int32) (x15_nc : Nat) (x15_ns : Nat) : B_X10_line_15 PP2 mp n a1 rc_15 x15_2 x15_h_B_3 x15_h_wb_n x15_h_wb x15_nc x15_ns = B_X10_line_15 PP1 mp n a1 rc_15 x15_2 x15_h_B_3 x15_h_wb_n x15_h_wb x15_nc x15_ns := by
  unfold B_X10_line_15
  simp only [h.1, h.2.1, h.2.2.1, h.2.2.2.1, h.2.2.2.2, cg_F_X10_writePage h]
set_option maxHeartbeats 1000000 in
theorem cg_L_X10_line_15 {PP1 PP2 : List PG} {mp pk1 pk2 : Nat → Int32} {cn : Int32} (h : OB PP1 PP2 mp pk1 pk2 cn) (n : Int32) (a1 : Int32) : ∀ k : Nat, L_X10_line_15 PP2 mp n a1 k = L_X10_line_15 PP1 mp n a1 k := by
  intro k
  induction k with
  | zero => rfl
  | succ k ih =>
    show B_X10_line_15 PP2 mp n a1 (L_X10_line_15 PP2 mp n a1 k) = B_X10_line_15 PP1 mp n a1 (L_X10_line_15 PP1 mp n a1 k)
    rw [ih]
    funext z0 z1 z2 z3 z4 z5
    exact cg_B_X10_line_15 h _ _ _ _ _ _ _ _ _
set_option maxHeartbeats 1000000 in
theorem cg_K_X10_line_10 {PP1 PP2 : List PG} {mp pk1 pk2 : Nat → Int32} {cn : Int32} (h : OB PP1 PP2 mp pk1 pk2 cn) (n : Int32) (a1 : Int32) : ∀ r0, K_X10_line_10 PP2 mp n a1 r0 = K_X10_line_10 PP1 mp n a1 r0 := by
  intro r0
  rcases r0 with ⟨y0, y1, y2, y3, y4, y5⟩
  all_goals (unfold K_X10_line_10; try simp only [h.1, h.2.1, h.2.2.1, h.2.2.2.1, h.2.2.2.2, cg_L_X10_line_15 h])
set_option maxHeartbeats 1000000 in
theorem cg_F_X10_line {PP1 PP2 : List PG} {mp pk1 pk2 : Nat → Int32} {cn : Int32} (h : OB PP1 PP2 mp pk1 pk2 cn) (n : Int32) (wb : Nat → Int32) (capw : Nat) (wl : Int32) (wn : Int32) (a1 : Int32) : F_X10_line PP2 mp n wb capw wl wn a1 = F_X10_line PP1 mp n wb capw wl wn a1 := by
  unfold F_X10_line
  simp only [h.1, h.2.1, h.2.2.1, h.2.2.2.1, h.2.2.2.2, cg_K_X10_line_10 h]
