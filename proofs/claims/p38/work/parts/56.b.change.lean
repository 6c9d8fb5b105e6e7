/-! CHANGES IN THE MODEL -/
/-- the serials alive, surveyor by surveyor -/
def LJ (f : Nat → Nat) (d n : Nat) (tk : Int32) (M : MP) (lt : List LT) : Prop := 0 ≤ tk.toInt ∧ (∀ X, X < n → (∃ L : List Int, L.length ≤ f X ∧ RB_ X L tk M lt ∧ TT_ X L lt) ∧ sr_ (M X X) ≤ tk.toInt + d) ∧ OG n M lt ∧ (n = 0 → lt = [] ∧ ∀ a b, M a b = pg0)
theorem LJ.li {f : Nat → Nat} {r d n : Nat} {tk : Int32} {M : MP} {lt : List LT} (h : LJ f d n tk M lt) (hr : ∀ X, X < n → f X ≤ r) : LI r d n tk M lt :=
  ⟨h.1, fun X hX => by
    obtain ⟨⟨L, h1, h2⟩, h3⟩ := h.2.1 X hX
    exact ⟨⟨L, Nat.le_trans h1 (hr X hX), h2⟩, h3⟩, h.2.2.1⟩
theorem LJ.of {r d n : Nat} {tk : Int32} {M : MP} {lt : List LT} (h : LI r d n tk M lt) (h0 : 0 < n) : LJ (fun _ => r) d n tk M lt := ⟨h.1, h.2.1, h.2.2, fun z => by omega⟩
theorem LJ.mono {f g : Nat → Nat} {d e n : Nat} {tk : Int32} {M : MP} {lt : List LT} (h : LJ f d n tk M lt) (hf : ∀ X, X < n → f X ≤ g X) (hd : d ≤ e) : LJ g e n tk M lt :=
  ⟨h.1, fun X hX => by
    obtain ⟨⟨L, h1, h2⟩, h3⟩ := h.2.1 X hX
    exact ⟨⟨L, Nat.le_trans h1 (hf X hX), h2⟩, by omega⟩, h.2.2.1, h.2.2.2⟩
theorem LJ.nil {tk : Int32} (ht : 0 ≤ tk.toInt) {M : MP} (hM : ∀ a b, M a b = pg0) : LJ (fun _ => 0) 0 0 tk M [] :=
  ⟨ht, fun X hX => absurd hX (Nat.not_lt_zero _), ⟨fun b o z => by rw [hM, pg0_sr] at z; omega, fun l hl => absurd hl List.not_mem_nil⟩, fun _ => ⟨rfl, hM⟩⟩
/-- one surveyor more -/
theorem LJ.come {f : Nat → Nat} {d n : Nat} {tk : Int32} {M : MP} {lt : List LT} (h : LJ f d n tk M lt) : LJ (fun X => if X = n then 0 else f X) d (n + 1) tk M lt := by
  obtain ⟨h0, h1, ho, hz⟩ := h
  have hlp : (∀ l ∈ lt, 0 < sr_ l.2.2) ∧ WO2_ M := by
    by_cases c : n = 0
    · obtain ⟨e1, e2⟩ := hz c
      exact ⟨fun l hl => by rw [e1] at hl; exact absurd hl List.not_mem_nil, fun b o => Or.inl (e2 b o)⟩
    · obtain ⟨⟨L, _, hr, _⟩, _⟩ := h1 0 (by omega)
      exact ⟨hr.lp, hr.wo⟩
  have hcol : ∀ b, M b n = pg0 := fun b => by
    rcases hlp.2 b n with z | ⟨z1, z2⟩
    · exact z
    · have := ho.1 b n z2
      omega
  have hno : ∀ l ∈ lt, og_ l.2.2 ≠ n := fun l hl z => by
    have := ho.2 l hl (hlp.1 l hl)
    omega
  refine ⟨h0, fun X hX => ?_, ⟨fun b o z => by have := ho.1 b o z; omega, fun l hl z => by have := ho.2 l hl z; omega⟩, fun z => by omega⟩
  by_cases c : X = n
  · subst c
    refine ⟨⟨[], by simp, ⟨⟨fun v hv => absurd hv List.not_mem_nil, hlp.2, fun b => Or.inl (by rw [hcol]; exact pg0_s), fun l hl z => absurd z (hno l hl), fun v hv => absurd hv List.not_mem_nil, hlp.1, fun b => by rw [hcol, pg0_m]; omega, fun l hl z => absurd z (hno l hl), fun ρ hρ => absurd hρ (Nat.not_lt_zero _)⟩, ?_⟩⟩, by rw [hcol, pg0_sr]; omega⟩
    unfold TT_
    rw [List.countP_eq_zero.mpr (fun l hl z => hno l hl (of_decide_eq_true z))]
    exact Nat.zero_le _
  · obtain ⟨⟨L, l1, l2⟩, l3⟩ := h1 X (by omega)
    exact ⟨⟨L, by show L.length ≤ ite _ _ _; rw [if_neg c]; exact l1, l2⟩, l3⟩
/-- a new page -/
theorem LJ.ren {nb : Nat → Nat → Bool} (cst : Nat → Nat → Int32) {f : Nat → Nat} {d n : Nat} {tk : Int32} {M : MP} {lt : List LT} (hn : n ≤ 6) (hnb : NB_ nb) (h : LJ f d n tk M lt) {s : Nat} (hs : s < n) (hb : tk.toInt + d < 1999999) : LJ (fun X => if X = s then f X + 1 else f X) (d + 1) n tk (mren nb cst n tk (M, lt) s).1 (mren nb cst n tk (M, lt) s).2 := by
  obtain ⟨h0, h1, ho, hz⟩ := h
  obtain ⟨⟨L0, _, hr0, ht0⟩, hs0⟩ := h1 s hs
  refine ⟨h0, fun X hX => ?_, ⟨fun b o => ?_, fun l hl => ?_⟩, fun z => by omega⟩
  · obtain ⟨⟨L, l1, l2, l3⟩, l4⟩ := h1 X hX
    obtain ⟨k1, k2, k3, k4, k5⟩ := ren_RB (cst := cst) hn hnb (s := s) (by omega) l2 l3 (by omega) (M' := (mren nb cst n tk (M, lt) s).1) (lt' := (mren nb cst n tk (M, lt) s).2) rfl
    by_cases c : X = s
    · subst c
      obtain ⟨g1, g2⟩ := k5 rfl
      exact ⟨⟨_, by show (L ++ [sr_ (M X X) + 1]).length ≤ ite _ _ _; rw [if_pos rfl, List.length_append, List.length_singleton]; omega, g1, g2⟩, by rw [k3]; omega⟩
    · obtain ⟨g1, g2⟩ := k4 (fun z => c z.symm)
      exact ⟨⟨L, by show L.length ≤ ite _ _ _; rw [if_neg c]; exact l1, g1, g2⟩, by rw [k2 X c]; omega⟩
  · have hog : og_ (mnew nb cst n tk M s) = s := og_nI (by omega)
    show 0 < sr_ (mset M s s (mnew nb cst n tk M s) b o) → og_ (mset M s s (mnew nb cst n tk M s) b o) < n
    unfold mset
    split
    · intro _; rw [hog]; exact hs
    · exact ho.1 b o
  · have hog : og_ (mnew nb cst n tk M s) = s := og_nI (by omega)
    have hl : l ∈ lt ++ msl nb n s (mnew nb cst n tk M s) 99 := hl
    rcases List.mem_append.mp hl with y | y
    · exact ho.2 l y
    · intro _; rw [(mem_msl y).2.1, hog]; exact hs
/-- letters taken out, pages of others forgotten -/
theorem LJ.sub {f : Nat → Nat} {d n : Nat} {tk : Int32} {M M' : MP} {lt lt' : List LT} (h : LJ f d n tk M lt) (h0n : 0 < n) (hl : lt'.Sublist lt) (hown : ∀ X, M' X X = M X X) (hc : ∀ a b, M' a b = M a b ∨ M' a b = pg0) : LJ f d n tk M' lt' := by
  obtain ⟨h0, h1, ho, hz⟩ := h
  refine ⟨h0, fun X hX => ?_, ⟨fun b o z => ?_, fun l y z => ho.2 l (hl.subset y) z⟩, fun z => by omega⟩
  · obtain ⟨⟨L, l1, l2, l3⟩, l4⟩ := h1 X hX
    have wo : WO2_ M' := fun b o => by
      rcases hc b o with z | z
      · rw [z]; exact l2.wo b o
      · exact Or.inl z
    obtain ⟨k1, k2⟩ := RB_sub l2 l3 hl wo (hown X) (fun b => hc b X)
    exact ⟨⟨L, l1, k1, k2⟩, by rw [hown]; exact l4⟩
  · rcases hc b o with y | y
    · rw [y] at z ⊢; exact ho.1 b o z
    · rw [y, pg0_sr] at z; omega
