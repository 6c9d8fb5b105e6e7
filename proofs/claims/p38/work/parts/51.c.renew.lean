/-! PAGES FORGOTTEN, PAGES NEW -/
theorem SIM.setmp {PP : List PG} {mp pk : Nat → Int32} {cn : Int32} {M : MP} {lt : List LT} (h : SIM PP mp pk cn M lt) {s o : Nat} (hs : s < 6) (ho : o < 6) {v : Int32} (h0 : 0 ≤ v.toInt) (h1 : v.toInt < PP.length) : SIM PP (upd mp (6 * s + o) v) pk cn (mset M s o (pgd PP (ix v))) lt := by
  obtain ⟨hp, hm, hM, hc, hL⟩ := h
  refine ⟨hp, fun j => ?_, fun a b => ?_, hc, hL⟩
  · by_cases e : j = 6 * s + o
    · subst e; rw [pk_us]; exact ⟨h0, h1, fun z => by omega⟩
    · rw [pk_un e]; exact hm j
  · unfold mset
    by_cases e : a = s ∧ b = o
    · rw [if_pos e, if_pos (by omega), e.1, e.2, pk_us]
    · rw [if_neg e, hM]
      by_cases g : a < 6 ∧ b < 6
      · rw [if_pos g, if_pos g, pk_un (by omega)]
      · rw [if_neg g, if_neg g]
theorem mset_self {M : MP} {s o : Nat} {p : PG} (h : M s o = p) : mset M s o p = M := by
  funext a b
  unfold mset
  by_cases e : a = s ∧ b = o
  · rw [if_pos e, e.1, e.2, h]
  · rw [if_neg e]
theorem mfor_step (M : MP) (s x : Nat) (age tk : Int32) : mfor (x + 1) M s age tk = if x ≠ s ∧ ¬ (tk - (M s x).2.2.1 < age) then mset (mfor x M s age tk) s x pg0 else mfor x M s age tk := by
  funext a o
  by_cases c : x ≠ s ∧ ¬ (tk - (M s x).2.2.1 < age)
  · rw [if_pos c]
    unfold mset mfor
    by_cases e : a = s ∧ o = x
    · rw [if_pos e, if_pos ⟨e.1, by omega, by rw [e.2]; exact c.1, by rw [e.1, e.2]; exact c.2⟩]
    · rw [if_neg e]
      by_cases g : a = s ∧ o < x ∧ o ≠ s ∧ ¬ (tk - (M a o).2.2.1 < age)
      · rw [if_pos g, if_pos ⟨g.1, by omega, g.2.2⟩]
      · rw [if_neg g, if_neg (fun z => g ⟨z.1, by
          have : o ≠ x := fun y => e ⟨z.1, y⟩
          have := z.2.1
          omega, z.2.2⟩)]
  · rw [if_neg c]
    unfold mfor
    by_cases g : a = s ∧ o < x ∧ o ≠ s ∧ ¬ (tk - (M a o).2.2.1 < age)
    · rw [if_pos g, if_pos ⟨g.1, by omega, g.2.2⟩]
    · rw [if_neg g, if_neg (fun z => g ⟨z.1, by
        have : o ≠ x := fun y => c (by rw [← y]; exact ⟨z.2.2.1, by have w := z.2.2.2; rw [z.1] at w; exact w⟩)
        have := z.2.1
        omega, z.2.2⟩)]
theorem forget_spec {PP : List PG} {pk : Nat → Int32} {cn : Int32} {lt : List LT} {n s : Nat} (hn : n ≤ 6) (hs : s < 6) (M : MP) (tk age : Int32) :
    ∀ (k x : Nat) (mp : Nat → Int32), x ≤ n → n < x + k → SIM PP mp pk cn (mfor x M s age tk) lt →
    ∃ mp', L_X8_forget_2 PP (nI n) tk (nI s) age k (nI x) mp = (nI n, mp') ∧ SIM PP mp' pk cn (mfor n M s age tk) lt := by
  intro k
  induction k with
  | zero => intro x mp hx hk; omega
  | succ k ih =>
    intro x mp hx hk h
    show ∃ mp', B_X8_forget_2 PP (nI n) tk (nI s) age (L_X8_forget_2 PP (nI n) tk (nI s) age k) (nI x) mp = (nI n, mp') ∧ _
    unfold B_X8_forget_2
    by_cases c1 : n ≤ x
    · have e : x = n := by omega
      subst e
      rw [if_pos ((qI_le (by omega) (by omega)).mpr (Nat.le_refl _))]
      exact ⟨mp, rfl, h⟩
    · rw [if_neg (by rw [qI_le (by omega) (by omega)]; omega), qI_succ (by omega)]
      have hst := mfor_step M s x age tk
      by_cases c2 : x = s
      · rw [if_pos (by rw [c2])]
        rw [if_neg (fun z => z.1 c2)] at hst
        exact ih (x + 1) mp (by omega) (by omega) (by rw [hst]; exact h)
      · rw [if_neg (fun z => c2 ((qI_inj (by omega) (by omega)).mp z))]
        have hpg := h.page hs (show x < 6 by omega)
        rw [show mfor x M s age tk s x = M s x from if_neg (fun z => Nat.lt_irrefl _ z.2.1)] at hpg
        rw [hpg]
        unfold F_X8_ageOf
        by_cases c3 : tk - (M s x).2.2.1 < age
        · rw [if_pos c3]
          rw [if_neg (fun z => z.2 c3)] at hst
          exact ih (x + 1) mp (by omega) (by omega) (by rw [hst]; exact h)
        · rw [if_neg c3, ixpair_nI hs (by omega)]
          rw [if_pos ⟨c2, c3⟩] at hst
          refine ih (x + 1) _ (by omega) (by omega) ?_
          rw [hst]
          have h2 := h.setmp hs (show x < 6 by omega) (v := 0) (by decide) (by rw [i0]; have := h.1.1; omega)
          rw [show ix 0 = 0 from by decide, h.1.2.2] at h2
          exact h2
theorem mfor_0 (M : MP) (s : Nat) (age tk : Int32) : mfor 0 M s age tk = M := by
  funext a o
  exact if_neg (fun z => Nat.not_lt_zero _ z.2.1)
theorem fuel_nI {n : Nat} (hn : n ≤ 6) : n < 0 + ((((nI n) : Int32).toInt - (0 : Int32).toInt).toNat + 1) := by rw [nI_toInt (by omega), i0]; omega
theorem forgetF_spec {PP : List PG} {mp pk : Nat → Int32} {cn : Int32} {lt : List LT} {n s : Nat} (hn : n ≤ 6) (hs : s < 6) {M : MP} (tk age : Int32) (h : SIM PP mp pk cn M lt) : SIM PP (F_X8_forget PP mp (nI n) tk (nI s) age) pk cn (mfor n M s age tk) lt := by
  obtain ⟨mp', e, h2⟩ := forget_spec hn hs M tk age _ 0 mp (Nat.zero_le _) (fuel_nI hn) (by rw [mfor_0]; exact h)
  unfold F_X8_forget
  rw [show nI 0 = (0 : Int32) from rfl] at e
  rw [e]
  exact h2
/-- what a new page tells -/
theorem told_spec (ds cs : Nat → Int32) {n s : Nat} (hn : n ≤ 6) (hs : s < 6) : ∀ (k x : Nat) (nc ns : Nat), x ≤ n → n < x + k →
    L_X8_renew_7 ds cs (nI n) (nI s) k (nI x) (mtold (nbF ds cs n) (cstF cs) x s) nc ns = (nI n, mtold (nbF ds cs n) (cstF cs) n s, nc, ns) := by
  intro k
  induction k with
  | zero => intro x nc ns hx hk; omega
  | succ k ih =>
    intro x nc ns hx hk
    show B_X8_renew_7 ds cs (nI n) (nI s) (L_X8_renew_7 ds cs (nI n) (nI s) k) (nI x) (mtold (nbF ds cs n) (cstF cs) x s) nc ns = _
    unfold B_X8_renew_7
    by_cases c1 : n ≤ x
    · have e : x = n := by omega
      subst e
      rw [if_pos ((qI_le (by omega) (by omega)).mpr (Nat.le_refl _))]
    · rw [if_neg (by rw [qI_le (by omega) (by omega)]; omega), qI_succ (by omega), nei_nI hn hs (by omega), qI_ix (by omega)]
      have e : ∀ v : Int32, v = (if nbF ds cs n s x = true then cstF cs s x else 0) → upd (mtold (nbF ds cs n) (cstF cs) x s) x v = mtold (nbF ds cs n) (cstF cs) (x + 1) s := by
        intro v hv
        funext o
        by_cases g : o = x
        · subst g
          rw [pk_us, hv]
          unfold mtold
          by_cases g2 : nbF ds cs n s o = true
          · rw [if_pos g2, if_pos ⟨by omega, g2⟩]
          · rw [if_neg g2, if_neg (fun z => g2 z.2)]
        · rw [pk_un g]
          unfold mtold
          by_cases g2 : o < x ∧ nbF ds cs n s o = true
          · rw [if_pos g2, if_pos ⟨by omega, g2.2⟩]
          · rw [if_neg g2, if_neg (fun z => g2 ⟨by omega, z.2⟩)]
      by_cases c3 : nbF ds cs n s x = true
      · rw [if_pos c3, if_neg (by decide), e _ (by rw [if_pos c3]; unfold F_X8_costBetween cstF; rw [ixpair_nI hs (by omega)])]
        exact ih (x + 1) _ _ (by omega) (by omega)
      · rw [if_neg c3, if_pos rfl, e 0 (by rw [if_neg c3])]
        exact ih (x + 1) _ _ (by omega) (by omega)
theorem rtold_eq (ds cs : Nat → Int32) {n s : Nat} (hn : n ≤ 6) (hs : s < 6) : rtold ds cs (nI n) (nI s) = mtold (nbF ds cs n) (cstF cs) n s := by
  have e := told_spec ds cs hn hs _ 0 (0 + 1) (0 + 6) (Nat.zero_le _) (fuel_nI hn)
  have e0 : mtold (nbF ds cs n) (cstF cs) 0 s = fun _ => 0 := by
    funext o
    exact if_neg (fun z => Nat.not_lt_zero _ z.1)
  rw [e0, show nI 0 = (0 : Int32) from rfl] at e
  unfold rtold
  rw [e]
theorem SIM.push {PP : List PG} {mp pk : Nat → Int32} {cn : Int32} {M : MP} {lt : List LT} (h : SIM PP mp pk cn M lt) (p : PG) (hl : PP.length + 1 ≤ 2000000) : SIM (PP ++ [p]) mp pk cn M lt := by
  obtain ⟨⟨p1, p2, p3⟩, hm, hM, hc, hL⟩ := h
  have el : (PP ++ [p]).length = PP.length + 1 := by rw [List.length_append]; rfl
  refine ⟨⟨by omega, by omega, by rw [pgd_lt p1]; exact p3⟩, fun j => ⟨(hm j).1, by have := (hm j).2.1; omega, (hm j).2.2⟩, fun a b => ?_, hc, fun k l hl2 => ?_⟩
  · rw [hM]
    by_cases g : a < 6 ∧ b < 6
    · rw [if_pos g, if_pos g, pgd_lt (by have z1 := (hm (6 * a + b)).1; have z2 := (hm (6 * a + b)).2.1; rw [ix_toNat]; omega)]
    · rw [if_neg g, if_neg g]
  · obtain ⟨q1, q2, i, q3, q4, q5⟩ := hL k l hl2
    exact ⟨q1, q2, i, by omega, q4, by rw [pgd_lt q3]; exact q5⟩
