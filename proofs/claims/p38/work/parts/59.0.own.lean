/-! A SURVEYOR'S OWN PAGE TELLS NO COST TO ITSELF -/
def OZ (M : MP) : Prop := ∀ a, (M a a).2.2.2 a = 0
theorem OZ.nil {M : MP} (h : ∀ a b, M a b = pg0) : OZ M := fun a => by rw [h]; rfl
theorem oz_own {M M' : MP} (h : OZ M) (hc : ∀ a, M' a a = M a a ∨ (M' a a).2.2.2 a = 0) : OZ M' := fun a => by
  rcases hc a with z | z
  · rw [z]; exact h a
  · exact z
theorem oz_new {nb : Nat → Nat → Bool} (cst : Nat → Nat → Int32) (n : Nat) (tk : Int32) {M : MP} (hnb : NB_ nb) (h : OZ M) (s : Nat) : OZ (mset M s s (mnew nb cst n tk M s)) := oz_own h (fun a => by
  unfold mset
  by_cases c : a = s ∧ a = s
  · rw [if_pos c]
    refine Or.inr ?_
    show mtold nb cst n s a = 0
    rw [c.1]
    exact if_neg (fun z => (hnb s s z.2).2.2.1 rfl)
  · rw [if_neg c]; exact Or.inl rfl)
theorem oz_ren {nb : Nat → Nat → Bool} (cst : Nat → Nat → Int32) (n : Nat) (tk : Int32) {M : MP} {lt : List LT} (hnb : NB_ nb) (h : OZ M) (s : Nat) : OZ (mren nb cst n tk (M, lt) s).1 := oz_new cst n tk hnb h s
theorem oz_for (n : Nat) {M : MP} (s : Nat) (age tk : Int32) (h : OZ M) : OZ (mfor n M s age tk) := oz_own h (fun a => by
  unfold mfor
  split
  · exact Or.inr rfl
  · exact Or.inl rfl)
theorem oz_ph1 {nb : Nat → Nat → Bool} (cst : Nat → Nat → Int32) (n : Nat) (tk : Int32) (hnb : NB_ nb) : ∀ (ss : List Nat) (st : MP × List LT), OZ st.1 → OZ (ss.foldl (mph1 nb cst n tk) st).1 := by
  intro ss
  induction ss with
  | nil => intro st h; exact h
  | cons s ss ih =>
    intro st h
    rw [List.foldl_cons]
    refine ih _ ?_
    unfold mph1
    split
    · exact oz_for n s 20 tk h
    · exact oz_new cst n tk hnb (oz_for n s 20 tk h) s
theorem oz_dl (nb : Nat → Nat → Bool) (n : Nat) : ∀ (ls : List LT) (st : MP × List LT), OZ st.1 → OZ (ls.foldl (mdl nb n) st).1 := by
  intro ls
  induction ls with
  | nil => intro st h; exact h
  | cons l ls ih =>
    intro st h
    rw [List.foldl_cons]
    refine ih _ ?_
    unfold mdl
    split
    · exact h
    · split
      · exact h
      · rename_i c
        split
        · refine oz_own h (fun a => Or.inl ?_)
          show (if a = l.2.1 ∧ a = og_ l.2.2 then l.2.2 else st.1 a a) = st.1 a a
          exact if_neg (fun z => c (z.2.symm.trans z.1))
        · split
          · exact h
          · exact h
theorem oz_tick {nb : Nat → Nat → Bool} (cst : Nat → Nat → Int32) (n : Nat) (tk : Int32) {M : MP} (lt : List LT) (hnb : NB_ nb) (h : OZ M) : OZ (mtick nb cst n tk M lt).1 := oz_dl nb n lt _ (oz_ph1 cst n tk hnb _ (M, []) h)
theorem oz_ticks {nb : Nat → Nat → Bool} (cst : Nat → Nat → Int32) (n : Nat) (hnb : NB_ nb) : ∀ (k : Nat) (tk : Int32) (M : MP) (lt : List LT), OZ M → OZ (mticks nb cst n k tk M lt).2.1 := by
  intro k
  induction k with
  | zero => intro tk M lt h; exact h
  | succ k ih => intro tk M lt h; exact ih (tk + 1) _ _ (oz_tick cst n (tk + 1) lt hnb h)
theorem oz_mv {nb : Nat → Nat → Bool} (cst : Nat → Nat → Int32) (n : Nat) (tk : Int32) (cs : Nat → Int32) (s : Nat) (hnb : NB_ nb) : ∀ (k x : Nat) (st : MP × List LT), OZ st.1 → OZ (mmvL nb cst n tk cs s k x st).1 := by
  intro k
  induction k with
  | zero => intro x st h; exact h
  | succ k ih =>
    intro x st h
    unfold mmvL
    split
    · exact h
    · refine ih (x + 1) _ ?_
      unfold mmst
      split
      · exact oz_new cst n tk hnb h x
      · exact h
