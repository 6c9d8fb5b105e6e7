/-! A TICK, for one surveyor's pages -/
def mA_ (p : PG) : Int := p.2.2.1.toInt
def mfor (n : Nat) (M : MP) (s : Nat) (age tk : Int32) : MP := fun a o => if a = s ∧ o < n ∧ o ≠ s ∧ ¬ (tk - (M a o).2.2.1 < age) then pg0 else M a o
def mtold (nb : Nat → Nat → Bool) (cst : Nat → Nat → Int32) (n s : Nat) : Nat → Int32 := fun o => if o < n ∧ nb s o = true then cst s o else 0
def mnew (nb : Nat → Nat → Bool) (cst : Nat → Nat → Int32) (n : Nat) (tk : Int32) (M : MP) (s : Nat) : PG := (nI s, (M s s).2.1 + 1, tk, mtold nb cst n s)
def mren (nb : Nat → Nat → Bool) (cst : Nat → Nat → Int32) (n : Nat) (tk : Int32) (st : MP × List LT) (s : Nat) : MP × List LT := (mset st.1 s s (mnew nb cst n tk st.1 s), st.2 ++ msl nb n s (mnew nb cst n tk st.1 s) 99)
def mph1 (nb : Nat → Nat → Bool) (cst : Nat → Nat → Int32) (n : Nat) (tk : Int32) (st : MP × List LT) (s : Nat) : MP × List LT :=
  if tk - (mfor n st.1 s 20 tk s s).2.2.1 < 10 then (mfor n st.1 s 20 tk, st.2) else mren nb cst n tk (mfor n st.1 s 20 tk, st.2) s
def mtick (nb : Nat → Nat → Bool) (cst : Nat → Nat → Int32) (n : Nat) (tk : Int32) (M : MP) (lt : List LT) : MP × List LT := lt.foldl (mdl nb n) ((List.range n).foldl (mph1 nb cst n tk) (M, []))
theorem pg0_s : pg0.2.1.toInt = 0 := by decide +kernel
theorem pg0_m : mA_ pg0 = 0 := by decide +kernel
theorem og_nI {s : Nat} (h : s < 2 ^ 31) : ((nI s).toInt.toNat) = s := by rw [nI_toInt h]; rfl
section TICK
variable {nb : Nat → Nat → Bool} {cst : Nat → Nat → Int32} {n X : Nat} {tk : Int32}
theorem mfor_own {M : MP} {s : Nat} {age : Int32} : mfor n M s age tk s s = M s s := if_neg (fun z => z.2.2.1 rfl)
theorem mfor_WO {M : MP} {s : Nat} {age : Int32} (h : WO_ M) : WO_ (mfor n M s age tk) := fun b o => by
  unfold mfor
  split
  · exact Or.inl pg0_s
  · exact h b o
/-- what a list of surveyors without X leaves of X -/
theorem ph1_NX (hnb : NB_ nb) (hn : n ≤ 6) : ∀ (ss : List Nat) (M : MP) (out : List LT), X ∉ ss → (∀ s ∈ ss, s < 6) → WO_ M → (∀ s ∈ ss, 0 ≤ sr_ (M s s) ∧ sr_ (M s s) < 2000000) → ss.Nodup →
    (ss.foldl (mph1 nb cst n tk) (M, out)).1 X X = M X X ∧ WO_ (ss.foldl (mph1 nb cst n tk) (M, out)).1 ∧
    (∀ b, (ss.foldl (mph1 nb cst n tk) (M, out)).1 b X = M b X ∨ ((ss.foldl (mph1 nb cst n tk) (M, out)).1 b X = pg0 ∧ b ≠ X ∧ ¬ (tk - (M b X).2.2.1 < 20))) ∧
    (∀ b, b ∉ ss → ∀ o, (ss.foldl (mph1 nb cst n tk) (M, out)).1 b o = M b o) ∧
    ∃ more : List LT, (ss.foldl (mph1 nb cst n tk) (M, out)).2 = out ++ more ∧ ∀ l ∈ more, og_ l.2.2 ≠ X ∧ nb l.1 l.2.1 = true ∧ 0 < sr_ l.2.2
  | [], M, out, _, _, hO, _, _ => ⟨rfl, hO, fun b => Or.inl rfl, fun _ _ _ => rfl, [], by simp, fun l hl => by cases hl⟩
  | s :: ss, M, out, hX, h6, hO, hs, hd => by
    have hsX : s ≠ X := fun e => hX (by rw [e]; exact List.mem_cons_self)
    obtain ⟨hd1, hd2⟩ := List.nodup_cons.mp hd
    have hs0 := hs s List.mem_cons_self
    rw [List.foldl_cons]
    -- the step
    have step : ∃ M' more', mph1 nb cst n tk (M, out) s = (M', out ++ more') ∧ WO_ M' ∧ (∀ b, b ≠ s → ∀ o, M' b o = M b o) ∧ (M' s X = M s X ∨ (M' s X = pg0 ∧ ¬ (tk - (M s X).2.2.1 < 20))) ∧ ∀ l ∈ more', og_ l.2.2 ≠ X ∧ nb l.1 l.2.1 = true ∧ 0 < sr_ l.2.2 := by
      unfold mph1
      have hsX2 : (mfor n M s 20 tk s X = M s X) ∨ (mfor n M s 20 tk s X = pg0 ∧ ¬ (tk - (M s X).2.2.1 < 20)) := by
        unfold mfor
        split
        · rename_i h; exact Or.inr ⟨rfl, h.2.2.2⟩
        · exact Or.inl rfl
      have hrow : ∀ b, b ≠ s → ∀ o, mfor n M s 20 tk b o = M b o := fun b hb o => if_neg (fun z => hb z.1)
      by_cases c : tk - (mfor n M s 20 tk s s).2.2.1 < 10
      · rw [if_pos c]
        exact ⟨_, [], by simp, mfor_WO hO, hrow, hsX2, fun l hl => by cases hl⟩
      · rw [if_neg c]
        refine ⟨mset (mfor n M s 20 tk) s s (mnew nb cst n tk (mfor n M s 20 tk) s), msl nb n s (mnew nb cst n tk (mfor n M s 20 tk) s) 99, rfl, fun b o => ?_, fun b hb o => ?_, ?_, fun l hl => ?_⟩
        · unfold mset
          split
          · rename_i h
            exact Or.inr (by rw [h.2]; exact og_nI (Nat.lt_of_lt_of_le (h6 s List.mem_cons_self) (by decide)))
          · exact mfor_WO hO b o
        · show mset _ _ _ _ b o = _
          rw [show mset (mfor n M s 20 tk) s s (mnew nb cst n tk (mfor n M s 20 tk) s) b o = mfor n M s 20 tk b o from if_neg (fun z => hb z.1)]
          exact hrow b hb o
        · rw [show mset (mfor n M s 20 tk) s s (mnew nb cst n tk (mfor n M s 20 tk) s) s X = mfor n M s 20 tk s X from if_neg (fun z => hsX z.2.symm)]
          exact hsX2
        · unfold msl at hl
          obtain ⟨o, ho, rfl⟩ := List.mem_map.mp hl
          have ho2 := (List.mem_filter.mp ho).2
          rw [Bool.and_eq_true] at ho2
          refine ⟨fun e => hsX ?_, ho2.2, ?_⟩
          · have e2 : og_ (mnew nb cst n tk (mfor n M s 20 tk) s) = s := og_nI (Nat.lt_of_lt_of_le (h6 s List.mem_cons_self) (by decide))
            exact e2.symm.trans e
          · show 0 < ((mfor n M s 20 tk s s).2.1 + 1).toInt
            rw [mfor_own]
            have e1 : (1 : Int32).toInt = 1 := by decide +kernel
            have e : ((M s s).2.1 + 1).toInt = (M s s).2.1.toInt + (1 : Int32).toInt := addI (by have := hs0.1; unfold sr_ at this; omega) (by have := hs0.2; unfold sr_ at this; omega)
            have := hs0.1
            unfold sr_ at this
            omega
    obtain ⟨M', more', e, w1, w2, w3, w4⟩ := step
    rw [e]
    have ih := ph1_NX hnb hn ss M' (out ++ more') (fun z => hX (List.mem_cons_of_mem _ z)) (fun z hz => h6 z (List.mem_cons_of_mem _ hz)) w1 (fun z hz => by
      have hzs : z ≠ s := fun e => hd1 (by rw [← e]; exact hz)
      rw [w2 z hzs z]
      exact hs z (List.mem_cons_of_mem _ hz)) hd2
    obtain ⟨i1, i2, i3, i4, more, i5, i6⟩ := ih
    refine ⟨by rw [i1]; exact w2 X (fun e => hsX e.symm) X, i2, fun b => ?_, fun b hb o => ?_, more' ++ more, by rw [i5, List.append_assoc], fun l hl => ?_⟩
    · by_cases hb : b = s
      · subst hb
        have hbs : b ∉ ss := hd1
        rw [i4 b hbs X]
        rcases w3 with h | h
        · exact Or.inl h
        · exact Or.inr ⟨h.1, hsX, h.2⟩
      · have h9 := i3 b
        rw [w2 b hb X] at h9
        exact h9
    · rw [i4 b (fun z => hb (List.mem_cons_of_mem _ z)) o]
      exact w2 b (fun e => hb (by rw [e]; exact List.mem_cons_self)) o
    · rcases List.mem_append.mp hl with h | h
      · exact w4 l h
      · exact i6 l h
/-- the surveyor X itself -/
theorem ph1_X {M : MP} {out : List LT} : mph1 nb cst n tk (M, out) X = if tk - (M X X).2.2.1 < 10 then (mfor n M X 20 tk, out) else (mset (mfor n M X 20 tk) X X (mnew nb cst n tk M X), out ++ msl nb n X (mnew nb cst n tk M X) 99) := by
  unfold mph1 mren
  have e : mnew nb cst n tk (mfor n M X 20 tk) X = mnew nb cst n tk M X := by
    unfold mnew
    rw [mfor_own]
  rw [mfor_own, e]
theorem mfor_col {M : MP} {b : Nat} {age : Int32} : mfor n M X age tk b X = M b X := if_neg (fun z => z.2.2.1 rfl)
theorem ph1_all (hnb : NB_ nb) (hn : n ≤ 6) (hX : X < n) {M : MP} (hO : WO_ M) (hs : ∀ s, s < n → 0 ≤ sr_ (M s s) ∧ sr_ (M s s) < 2000000) :
    ∃ M1 ren, (List.range n).foldl (mph1 nb cst n tk) (M, []) = (M1, ren) ∧ WO_ M1 ∧ (∀ b, b ≠ X → M1 b X = M b X ∨ (M1 b X = pg0 ∧ ¬ (tk - (M b X).2.2.1 < 20))) ∧
      ((tk - (M X X).2.2.1 < 10 ∧ M1 X X = M X X ∧ (∀ l ∈ ren, og_ l.2.2 ≠ X ∧ nb l.1 l.2.1 = true ∧ 0 < sr_ l.2.2)) ∨
       (¬ (tk - (M X X).2.2.1 < 10) ∧ M1 X X = mnew nb cst n tk M X ∧ ∃ r1 r2, ren = r1 ++ msl nb n X (mnew nb cst n tk M X) 99 ++ r2 ∧ (∀ l ∈ r1, og_ l.2.2 ≠ X ∧ nb l.1 l.2.1 = true ∧ 0 < sr_ l.2.2) ∧ (∀ l ∈ r2, og_ l.2.2 ≠ X ∧ nb l.1 l.2.1 = true ∧ 0 < sr_ l.2.2))) := by
  obtain ⟨l1, l2, e⟩ := List.append_of_mem (List.mem_range.mpr hX)
  have hnd : (l1 ++ X :: l2).Nodup := by rw [← e]; exact List.nodup_range
  obtain ⟨n1, n2, n3⟩ := List.nodup_append.mp hnd
  obtain ⟨n4, n5⟩ := List.nodup_cons.mp n2
  have x1 : X ∉ l1 := fun z => n3 X z X List.mem_cons_self rfl
  have mem1 : ∀ z ∈ l1, z < n := fun z hz => List.mem_range.mp (by rw [e]; exact List.mem_append_left _ hz)
  have mem2 : ∀ z ∈ l2, z < n := fun z hz => List.mem_range.mp (by rw [e]; exact List.mem_append_right _ (List.mem_cons_of_mem _ hz))
  rw [e, List.foldl_append, List.foldl_cons]
  have a := ph1_NX (X := X) (nb := nb) (cst := cst) (tk := tk) hnb hn l1 M [] x1 (fun z hz => by have := mem1 z hz; omega) hO (fun z hz => hs z (mem1 z hz)) n1
  generalize l1.foldl (mph1 nb cst n tk) (M, []) = st1 at a ⊢
  obtain ⟨Ma, oa⟩ := st1
  obtain ⟨a1, a2, a3, a4, ra, a5, a6⟩ := a
  have a1 : Ma X X = M X X := a1
  have a5 : oa = ra := by rw [show oa = [] ++ ra from a5]; rfl
  subst a5
  rw [ph1_X]
  -- the rest behind X
  have rest : ∀ (Mb : MP) (ob : List LT), WO_ Mb → (∀ z ∈ l2, Mb z z = M z z) → ∃ M1 r2, l2.foldl (mph1 nb cst n tk) (Mb, ob) = (M1, ob ++ r2) ∧ M1 X X = Mb X X ∧ WO_ M1 ∧ (∀ b, M1 b X = Mb b X ∨ (M1 b X = pg0 ∧ b ≠ X ∧ ¬ (tk - (Mb b X).2.2.1 < 20))) ∧ ∀ l ∈ r2, og_ l.2.2 ≠ X ∧ nb l.1 l.2.1 = true ∧ 0 < sr_ l.2.2 := by
    intro Mb ob hw hz
    have b := ph1_NX (X := X) (nb := nb) (cst := cst) (tk := tk) hnb hn l2 Mb ob n4 (fun z hz => by have := mem2 z hz; omega) hw (fun z h => by rw [hz z h]; exact hs z (mem2 z h)) n5
    generalize l2.foldl (mph1 nb cst n tk) (Mb, ob) = st2 at b ⊢
    obtain ⟨Mc, oc⟩ := st2
    obtain ⟨b1, b2, b3, b4, rb, b5, b6⟩ := b
    exact ⟨Mc, rb, by rw [show oc = ob ++ rb from b5], b1, b2, b3, b6⟩
  have hzz : ∀ z ∈ l2, Ma z z = M z z := fun z hz => a4 z (fun z9 => n3 z z9 z (List.mem_cons_of_mem _ hz) rfl) z
  have hne2 : ∀ z ∈ l2, z ≠ X := fun z hz e9 => n4 (by rw [← e9]; exact hz)
  by_cases c : tk - (M X X).2.2.1 < 10
  · rw [if_pos (by rw [a1]; exact c)]
    obtain ⟨M1, r2, b1, b2, b3, b4, b5⟩ := rest (mfor n Ma X 20 tk) oa (mfor_WO a2) (fun z hz => by
      rw [show mfor n Ma X 20 tk z z = Ma z z from if_neg (fun w => hne2 z hz w.1)]
      exact hzz z hz)
    refine ⟨M1, oa ++ r2, b1, b3, fun b hb => ?_, Or.inl ⟨c, by rw [b2, mfor_own]; exact a1, fun l hl => (List.mem_append.mp hl).elim (a6 l) (b5 l)⟩⟩
    have h4 := b4 b
    rw [mfor_col] at h4
    rcases a3 b with h | h <;> rcases h4 with g | g
    · exact Or.inl (g.trans h)
    · exact Or.inr ⟨g.1, by rw [show Ma b X = M b X from h] at g; exact g.2.2⟩
    · exact Or.inr ⟨g.trans h.1, h.2.2⟩
    · exact Or.inr ⟨g.1, h.2.2⟩
  · rw [if_neg (by rw [a1]; exact c)]
    have em : mnew nb cst n tk Ma X = mnew nb cst n tk M X := by unfold mnew; rw [a1]
    rw [em]
    have hog : og_ (mnew nb cst n tk M X) = X := og_nI (Nat.lt_of_lt_of_le hX (Nat.le_trans hn (by decide)))
    obtain ⟨M1, r2, b1, b2, b3, b4, b5⟩ := rest (mset (mfor n Ma X 20 tk) X X (mnew nb cst n tk M X)) (oa ++ msl nb n X (mnew nb cst n tk M X) 99) (fun b o => by
      unfold mset
      split
      · rename_i h; exact Or.inr (by rw [h.2]; exact hog)
      · exact mfor_WO a2 b o) (fun z hz => by
      rw [show mset (mfor n Ma X 20 tk) X X (mnew nb cst n tk M X) z z = mfor n Ma X 20 tk z z from if_neg (fun w => hne2 z hz w.1), show mfor n Ma X 20 tk z z = Ma z z from if_neg (fun w => hne2 z hz w.1)]
      exact hzz z hz)
    refine ⟨M1, oa ++ msl nb n X (mnew nb cst n tk M X) 99 ++ r2, b1, b3, fun b hb => ?_, Or.inr ⟨c, by rw [b2]; exact if_pos ⟨rfl, rfl⟩, oa, r2, rfl, a6, b5⟩⟩
    have h4 := b4 b
    rw [show mset (mfor n Ma X 20 tk) X X (mnew nb cst n tk M X) b X = mfor n Ma X 20 tk b X from if_neg (fun w => hb w.1), mfor_col] at h4
    rcases a3 b with h | h <;> rcases h4 with g | g
    · exact Or.inl (g.trans h)
    · exact Or.inr ⟨g.1, by rw [show Ma b X = M b X from h] at g; exact g.2.2⟩
    · exact Or.inr ⟨g.trans h.1, h.2.2⟩
    · exact Or.inr ⟨g.1, h.2.2⟩
end TICK
