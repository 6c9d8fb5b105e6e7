/-! THE WAYS: their answers do not depend on what stood in the tables -/
def RWv (r1 r2 : Nat × Int32 × (Nat → Int32) × (Nat → Int32)) : Prop := r1.1 = r2.1 ∧ r1.2.1 = r2.2.1 ∧ Zf 36 r1.2.2.1 ∧ Zf 6 r1.2.2.2 ∧ Zf 36 r2.2.2.1 ∧ Zf 6 r2.2.2.2
theorem RWv.rfl' {r : Nat × Int32 × (Nat → Int32) × (Nat → Int32)} (h1 : Zf 36 r.2.2.1) (h2 : Zf 6 r.2.2.2) : RWv r r := ⟨rfl, rfl, h1, h2, h1, h2⟩
theorem nBM_eq {PP : List PG} {mp wc1 wc2 wd1 wd2 : Nat → Int32} (a b : Int32) (h1 : Zf 36 wc1) (h2 : Zf 6 wd1) (h3 : Zf 36 wc2) (h4 : Zf 6 wd2) : F_X10_nextByMap PP mp wc1 wd1 a b = F_X10_nextByMap PP mp wc2 wd2 a b := by
  unfold F_X10_nextByMap
  rw [tm_eq a h1 h3, fS_eq h2 h4]
theorem nBM_Z {PP : List PG} {mp wc wd : Nat → Int32} (a b : Int32) (h1 : Zf 36 wc) (h2 : Zf 6 wd) : Zf 36 (F_X10_nextByMap PP mp wc wd a b).2.1 ∧ Zf 6 (F_X10_nextByMap PP mp wc wd a b).2.2 := by
  unfold F_X10_nextByMap
  exact ⟨tm_Z a h1, fS_Z h2⟩
theorem rw_distance {PP : List PG} {ds cs mp : Nat → Int32} {n : Int32} {wc1 wc2 wd1 wd2 : Nat → Int32} (h1 : Zf 36 wc1) (h2 : Zf 6 wd1) (h3 : Zf 36 wc2) (h4 : Zf 6 wd2) (a b : Int32) : RWv (F_X10_distance PP mp n wc1 wd1 a b) (F_X10_distance PP mp n wc2 wd2 a b) := by
  unfold F_X10_distance
  split
  · split
    · rw [tm_eq a h1 h3, nF_eq a h2 h4]
      split
      · exact RWv.rfl' (tm_Z a h3) (nF_Z a h4)
      · exact RWv.rfl' (tm_Z a h3) (nF_Z a h4)
    · exact ⟨rfl, rfl, h1, h2, h3, h4⟩
  · exact ⟨rfl, rfl, h1, h2, h3, h4⟩
theorem rw_distanceAgain {PP : List PG} {ds cs mp : Nat → Int32} {n : Int32} {wc1 wc2 wd1 wd2 : Nat → Int32} (h1 : Zf 36 wc1) (h2 : Zf 6 wd1) (h3 : Zf 36 wc2) (h4 : Zf 6 wd2) (a b : Int32) : RWv (F_X10_distanceAgain PP mp n wc1 wd1 a b) (F_X10_distanceAgain PP mp n wc2 wd2 a b) := by
  unfold F_X10_distanceAgain
  split
  · split
    · rw [tm_eq a h1 h3, cC_eq a h2 h4]
      split
      · exact RWv.rfl' (tm_Z a h3) (cC_Z a h4)
      · exact RWv.rfl' (tm_Z a h3) (cC_Z a h4)
    · exact ⟨rfl, rfl, h1, h2, h3, h4⟩
  · exact ⟨rfl, rfl, h1, h2, h3, h4⟩
theorem rw_real {PP : List PG} {ds cs mp : Nat → Int32} {n : Int32} {wc1 wc2 wd1 wd2 : Nat → Int32} (h1 : Zf 36 wc1) (h2 : Zf 6 wd1) (h3 : Zf 36 wc2) (h4 : Zf 6 wd2) (a b : Int32) : RWv (F_X10_real ds cs n wc1 wd1 a b) (F_X10_real ds cs n wc2 wd2 a b) := by
  unfold F_X10_real
  split
  · split
    · rw [tc_eq h1 h3, nF_eq a h2 h4]
      split
      · exact RWv.rfl' (tc_Z h3) (nF_Z a h4)
      · exact RWv.rfl' (tc_Z h3) (nF_Z a h4)
    · exact ⟨rfl, rfl, h1, h2, h3, h4⟩
  · exact ⟨rfl, rfl, h1, h2, h3, h4⟩
theorem rw_next {PP : List PG} {ds cs mp : Nat → Int32} {n : Int32} {wc1 wc2 wd1 wd2 : Nat → Int32} (h1 : Zf 36 wc1) (h2 : Zf 6 wd1) (h3 : Zf 36 wc2) (h4 : Zf 6 wd2) (a b : Int32) : RWv (F_X10_next PP mp n wc1 wd1 a b) (F_X10_next PP mp n wc2 wd2 a b) := by
  unfold F_X10_next
  split
  · split
    · rw [nBM_eq a b h1 h2 h3 h4]
      split
      · exact RWv.rfl' ((nBM_Z a b h3 h4).1) ((nBM_Z a b h3 h4).2)
      · exact RWv.rfl' ((nBM_Z a b h3 h4).1) ((nBM_Z a b h3 h4).2)
    · exact ⟨rfl, rfl, h1, h2, h3, h4⟩
  · exact ⟨rfl, rfl, h1, h2, h3, h4⟩
theorem kRea {PP : List PG} {mp wc wd : Nat → Int32} {a : Int32} : ∀ r, K_X10_reached_29 PP mp wc wd a r = (0, r.1, (F_X9_takeMap wc PP mp a), (F_X9_nearestFirst (F_X9_takeMap wc PP mp a) wd a)) := fun ⟨_, _⟩ => rfl
theorem rc29_eq {PP : List PG} {mp : Nat → Int32} {wc1 wc2 wd1 wd2 : Nat → Int32} (h1 : Zf 36 wc1) (h2 : Zf 6 wd1) (h3 : Zf 36 wc2) (h4 : Zf 6 wd2) (a : Int32) : ∀ k, L_X10_reached_29 PP mp wc1 wd1 a k = L_X10_reached_29 PP mp wc2 wd2 a k := by
  intro k
  induction k with
  | zero => rfl
  | succ k ih =>
    show B_X10_reached_29 PP mp wc1 wd1 a (L_X10_reached_29 PP mp wc1 wd1 a k) = B_X10_reached_29 PP mp wc2 wd2 a (L_X10_reached_29 PP mp wc2 wd2 a k)
    rw [ih]
    funext x y
    unfold B_X10_reached_29
    rw [tm_eq a h1 h3, nF_eq a h2 h4]
theorem rw_reached {PP : List PG} {ds cs mp : Nat → Int32} {n : Int32} {wc1 wc2 wd1 wd2 : Nat → Int32} (h1 : Zf 36 wc1) (h2 : Zf 6 wd1) (h3 : Zf 36 wc2) (h4 : Zf 6 wd2) (a : Int32) : RWv (F_X10_reached PP mp n wc1 wd1 a) (F_X10_reached PP mp n wc2 wd2 a) := by
  unfold F_X10_reached
  split
  · rw [rc29_eq h1 h2 h3 h4, kRea, kRea, fuel6]
    generalize L_X10_reached_29 PP mp wc2 wd2 a 7 0 0 = r
    exact ⟨rfl, rfl, tm_Z a h1, nF_Z a h2, tm_Z a h3, nF_Z a h4⟩
  · exact ⟨rfl, rfl, h1, h2, h3, h4⟩
theorem fo23_rw {PP : List PG} {cs mp : Nat → Int32} {b : Int32} : ∀ (k : Nat) (a x y z : Int32) (wc1 wc2 wd1 wd2 : Nat → Int32), Zf 36 wc1 → Zf 6 wd1 → Zf 36 wc2 → Zf 6 wd2 → RWv (K_X10_follow_23 (L_X10_follow_23 PP cs mp b k a x y z wc1 wd1)) (K_X10_follow_23 (L_X10_follow_23 PP cs mp b k a x y z wc2 wd2)) := by
  intro k
  induction k with
  | zero => intro a x y z wc1 wc2 wd1 wd2 h1 h2 h3 h4; exact ⟨rfl, rfl, h1, h2, h3, h4⟩
  | succ k ih =>
    intro a x y z wc1 wc2 wd1 wd2 h1 h2 h3 h4
    show RWv (K_X10_follow_23 (B_X10_follow_23 PP cs mp b (L_X10_follow_23 PP cs mp b k) a x y z wc1 wd1)) (K_X10_follow_23 (B_X10_follow_23 PP cs mp b (L_X10_follow_23 PP cs mp b k) a x y z wc2 wd2))
    unfold B_X10_follow_23
    rw [nBM_eq a b h1 h2 h3 h4]
    have z3 := (nBM_Z (PP := PP) (mp := mp) a b h3 h4).1
    have z4 := (nBM_Z (PP := PP) (mp := mp) a b h3 h4).2
    generalize F_X10_nextByMap PP mp wc2 wd2 a b = r at z3 z4 ⊢
    split
    · exact ⟨rfl, rfl, h1, h2, h3, h4⟩
    · split
      · exact ⟨rfl, rfl, h1, h2, h3, h4⟩
      · split
        · exact RWv.rfl' z3 z4
        · split
          · exact RWv.rfl' z3 z4
          · split
            · exact ih _ _ _ _ _ _ _ _ z3 z4 z3 z4
            · exact RWv.rfl' z3 z4
theorem rw_follow {PP : List PG} {ds cs mp : Nat → Int32} {n : Int32} {wc1 wc2 wd1 wd2 : Nat → Int32} (h1 : Zf 36 wc1) (h2 : Zf 6 wd1) (h3 : Zf 36 wc2) (h4 : Zf 6 wd2) (a b : Int32) : RWv (F_X10_follow PP cs mp n wc1 wd1 a b) (F_X10_follow PP cs mp n wc2 wd2 a b) := by
  unfold F_X10_follow
  split
  · split
    · rw [fuel6]
      exact fo23_rw 7 _ _ _ _ _ _ _ _ h1 h2 h3 h4
    · exact ⟨rfl, rfl, h1, h2, h3, h4⟩
  · exact ⟨rfl, rfl, h1, h2, h3, h4⟩
theorem kR32 {PP : List PG} {ds cs mp wc wd : Nat → Int32} {n a : Int32} : ∀ r, K_X10_isRight_32 PP ds cs mp n wc wd a r = K_X10_isRight_76 PP ds cs mp n wc wd a (L_X10_isRight_76 PP ds cs mp n wc wd a r.2 (((6 : Int32).toInt - (0 : Int32).toInt).toNat + 1) 0) := fun ⟨_, _⟩ => rfl
theorem ir32_eq {PP : List PG} {mp : Nat → Int32} {wc1 wc2 wd1 wd2 : Nat → Int32} (h1 : Zf 36 wc1) (h2 : Zf 6 wd1) (h3 : Zf 36 wc2) (h4 : Zf 6 wd2) (a : Int32) : ∀ k, L_X10_isRight_32 PP mp wc1 wd1 a k = L_X10_isRight_32 PP mp wc2 wd2 a k := by
  intro k
  induction k with
  | zero => rfl
  | succ k ih =>
    show B_X10_isRight_32 PP mp wc1 wd1 a (L_X10_isRight_32 PP mp wc1 wd1 a k) = B_X10_isRight_32 PP mp wc2 wd2 a (L_X10_isRight_32 PP mp wc2 wd2 a k)
    rw [ih]
    funext x y
    unfold B_X10_isRight_32
    rw [tm_eq a h1 h3, nF_eq a h2 h4]
theorem ir76_eq {PP : List PG} {ds cs mp : Nat → Int32} {n : Int32} {wc1 wc2 wd1 wd2 : Nat → Int32} (h1 : Zf 36 wc1) (h2 : Zf 6 wd1) (h3 : Zf 36 wc2) (h4 : Zf 6 wd2) (a : Int32) (f : Nat → Int32) : ∀ k, L_X10_isRight_76 PP ds cs mp n wc1 wd1 a f k = L_X10_isRight_76 PP ds cs mp n wc2 wd2 a f k := by
  intro k
  induction k with
  | zero => rfl
  | succ k ih =>
    show B_X10_isRight_76 PP ds cs mp n wc1 wd1 a f (L_X10_isRight_76 PP ds cs mp n wc1 wd1 a f k) = B_X10_isRight_76 PP ds cs mp n wc2 wd2 a f (L_X10_isRight_76 PP ds cs mp n wc2 wd2 a f k)
    rw [ih]
    funext x
    unfold B_X10_isRight_76
    rw [tm_eq a h1 h3, nF_eq a h2 h4]
theorem ir76_Z {PP : List PG} {ds cs mp : Nat → Int32} {n : Int32} {wc wd : Nat → Int32} (h1 : Zf 36 wc) (h2 : Zf 6 wd) (a : Int32) (f : Nat → Int32) : ∀ k x, Zf 36 (K_X10_isRight_76 PP ds cs mp n wc wd a (L_X10_isRight_76 PP ds cs mp n wc wd a f k x)).2.2.1 ∧ Zf 6 (K_X10_isRight_76 PP ds cs mp n wc wd a (L_X10_isRight_76 PP ds cs mp n wc wd a f k x)).2.2.2 := by
  intro k
  induction k with
  | zero => intro x; exact ⟨tc_Z (tm_Z a h1), nF_Z a (nF_Z a h2)⟩
  | succ k ih =>
    intro x
    rw [show L_X10_isRight_76 PP ds cs mp n wc wd a f (k + 1) x = B_X10_isRight_76 PP ds cs mp n wc wd a f (L_X10_isRight_76 PP ds cs mp n wc wd a f k) x from rfl]
    unfold B_X10_isRight_76
    split
    · exact ⟨tc_Z (tm_Z a h1), nF_Z a (nF_Z a h2)⟩
    · split
      · exact ih _
      · exact ⟨tc_Z (tm_Z a h1), nF_Z a (nF_Z a h2)⟩
theorem kir76 {PP : List PG} {ds cs mp : Nat → Int32} {n : Int32} {wc1 wc2 wd1 wd2 : Nat → Int32} (h1 : Zf 36 wc1) (h2 : Zf 6 wd1) (h3 : Zf 36 wc2) (h4 : Zf 6 wd2) (a : Int32) : ∀ r, K_X10_isRight_76 PP ds cs mp n wc1 wd1 a r = K_X10_isRight_76 PP ds cs mp n wc2 wd2 a r := by
  intro r
  unfold K_X10_isRight_76
  rw [tm_eq a h1 h3, nF_eq a h2 h4]
theorem rw_isRight {PP : List PG} {ds cs mp : Nat → Int32} {n : Int32} {wc1 wc2 wd1 wd2 : Nat → Int32} (h1 : Zf 36 wc1) (h2 : Zf 6 wd1) (h3 : Zf 36 wc2) (h4 : Zf 6 wd2) (a : Int32) : RWv (F_X10_isRight PP ds cs mp n wc1 wd1 a) (F_X10_isRight PP ds cs mp n wc2 wd2 a) := by
  unfold F_X10_isRight
  split
  · rw [ir32_eq h1 h2 h3 h4]
    rw [fuel6]
    generalize L_X10_isRight_32 PP mp wc2 wd2 a 7 0 (fun _ => 0) = r
    rw [kR32, kR32, fuel6, ir76_eq h1 h2 h3 h4, kir76 h1 h2 h3 h4]
    have z := ir76_Z (PP := PP) (ds := ds) (cs := cs) (mp := mp) (n := n) h3 h4 a r.2 7 0
    exact RWv.rfl' z.1 z.2
  · exact ⟨rfl, rfl, h1, h2, h3, h4⟩
