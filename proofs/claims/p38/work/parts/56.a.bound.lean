/-! THE LETTERS' BOUND, FOR ALL SURVEYORS -/
theorem toI1 {tk : Int32} (h0 : 0 ≤ tk.toInt) (h1 : tk.toInt < 2000000) : (tk + 1).toInt = tk.toInt + 1 := by
  rw [addI (by rw [i1]; omega) (by rw [i1]; omega), i1]
section BOUND2
variable {nb : Nat → Nat → Bool} {cst : Nat → Nat → Int32} {n : Nat}
theorem LB_of (hn : n ≤ 6) (h0n : 0 < n) (hnb : NB_ nb) (hn6 : ∀ a b, nb a b = true → b < n) {r d : Nat} (hd : d ≤ 100000) {O : Nat → List Int} (hO : ∀ X, X < n → (O X).length ≤ r) : ∀ (k : Nat) (tk : Int32) (M : MP) (lt : List LT), 0 ≤ tk.toInt → tk.toInt + k < 1000000 → (∀ X, X < n → PS_ nb X (O X) tk M lt ∧ sr_ (M X X) ≤ tk.toInt + d) → OG n M lt → LB (6 * BB (r + 2)) nb cst n k tk M lt := by
  have len : ∀ (tk : Int32) (M : MP) (lt : List LT), (∀ X, X < n → PS_ nb X (O X) tk M lt ∧ sr_ (M X X) ≤ tk.toInt + d) → OG n M lt → lt.length ≤ 6 * BB (r + 2) := by
    intro tk M lt h ho
    refine cnt_le hn ?_ ho.2 (fun X hX => ?_)
    · obtain ⟨L, _, hr, _⟩ := ps_end (h 0 h0n).1
      exact hr.lp
    · obtain ⟨L, h1, _, h2⟩ := ps_end (h X hX).1
      exact ⟨L, by have := hO X hX; omega, h2⟩
  intro k
  induction k with
  | zero => intro tk M lt h0 hk h ho; exact len tk M lt h ho
  | succ k ih =>
    intro tk M lt h0 hk h ho
    have et := toI1 h0 (by omega)
    refine ⟨len tk M lt h ho, ih (tk + 1) _ _ (by omega) (by omega) (fun X hX => ?_) (og_tick hn hnb ho)⟩
    obtain ⟨p1, p2⟩ := ps_tick (cst := cst) (tk := tk + 1) hn hX hnb hn6 (h X hX).1 et (fun s hs => by have := (h s hs).2; omega) (M' := (mtick nb cst n (tk + 1) M lt).1) (lt' := (mtick nb cst n (tk + 1) M lt).2) rfl
    exact ⟨p1, by have := (h X hX).2; omega⟩
theorem LI_LB (hn : n ≤ 6) (h0n : 0 < n) (hnb : NB_ nb) (hn6 : ∀ a b, nb a b = true → b < n) {r d : Nat} (hd : d ≤ 100000) {tk : Int32} {M : MP} {lt : List LT} (h : LI r d n tk M lt) (ht : tk.toInt < 500000) : LB (6 * BB (r + 2)) nb cst n 99 tk M lt := by
  obtain ⟨h0, h1, ho⟩ := h
  have hc : ∀ X, ∃ L : List Int, X < n → L.length ≤ r ∧ RB_ X L tk M lt ∧ TT_ X L lt := fun X => by
    by_cases c : X < n
    · obtain ⟨⟨L, h2⟩, _⟩ := h1 X c
      exact ⟨L, fun _ => h2⟩
    · exact ⟨[], fun z => absurd z c⟩
  obtain ⟨O, hO⟩ : ∃ O : Nat → List Int, ∀ X, X < n → (O X).length ≤ r ∧ RB_ X (O X) tk M lt ∧ TT_ X (O X) lt := ⟨fun X => Classical.choose (hc X), fun X hX => Classical.choose_spec (hc X) hX⟩
  exact LB_of hn h0n hnb hn6 hd (fun X hX => (hO X hX).1) 99 tk M lt h0 (by omega) (fun X hX => ⟨Or.inl (hO X hX).2, (h1 X hX).2⟩) ho
/-- a pass -/
theorem LI_pass (hn : n ≤ 6) (hnb : NB_ nb) (hn6 : ∀ a b, nb a b = true → b < n) {r d : Nat} (hd : d ≤ 100000) (k : Nat) {tk : Int32} {M : MP} {lt : List LT} (h : LI r d n tk M lt) (ht : tk.toInt + k < 500000) : LI (r + 2) d n (mticks nb cst n k tk M lt).1 (mticks nb cst n k tk M lt).2.1 (mticks nb cst n k tk M lt).2.2 ∧ (mticks nb cst n k tk M lt).1.toInt = tk.toInt + k := by
  obtain ⟨h0, h1, ho⟩ := h
  have hc : ∀ X, ∃ L : List Int, X < n → L.length ≤ r ∧ RB_ X L tk M lt ∧ TT_ X L lt := fun X => by
    by_cases c : X < n
    · obtain ⟨⟨L, h2⟩, _⟩ := h1 X c
      exact ⟨L, fun _ => h2⟩
    · exact ⟨[], fun z => absurd z c⟩
  obtain ⟨O, hO⟩ : ∃ O : Nat → List Int, ∀ X, X < n → (O X).length ≤ r ∧ RB_ X (O X) tk M lt ∧ TT_ X (O X) lt := ⟨fun X => Classical.choose (hc X), fun X hX => Classical.choose_spec (hc X) hX⟩
  have key : ∀ (k : Nat) (tk : Int32) (M : MP) (lt : List LT), 0 ≤ tk.toInt → tk.toInt + k < 500000 → (∀ X, X < n → PS_ nb X (O X) tk M lt ∧ sr_ (M X X) ≤ tk.toInt + d) → OG n M lt → (mticks nb cst n k tk M lt).1.toInt = tk.toInt + k ∧ (∀ X, X < n → PS_ nb X (O X) (mticks nb cst n k tk M lt).1 (mticks nb cst n k tk M lt).2.1 (mticks nb cst n k tk M lt).2.2 ∧ sr_ ((mticks nb cst n k tk M lt).2.1 X X) ≤ (mticks nb cst n k tk M lt).1.toInt + d) ∧ OG n (mticks nb cst n k tk M lt).2.1 (mticks nb cst n k tk M lt).2.2 := by
    intro k
    induction k with
    | zero => intro tk M lt h0 hk h ho; exact ⟨by show tk.toInt = tk.toInt + (0 : Nat); omega, h, ho⟩
    | succ k ih =>
      intro tk M lt h0 hk h ho
      have et := toI1 h0 (by omega)
      have z := ih (tk + 1) (mtick nb cst n (tk + 1) M lt).1 (mtick nb cst n (tk + 1) M lt).2 (by omega) (by omega) (fun X hX => by
        obtain ⟨p1, p2⟩ := ps_tick (cst := cst) (tk := tk + 1) hn hX hnb hn6 (h X hX).1 et (fun s hs => by have := (h s hs).2; omega) (M' := (mtick nb cst n (tk + 1) M lt).1) (lt' := (mtick nb cst n (tk + 1) M lt).2) rfl
        exact ⟨p1, by have := (h X hX).2; omega⟩) (og_tick hn hnb ho)
      unfold mticks
      exact ⟨by have := z.1; omega, z.2⟩
  obtain ⟨k1, k2, k3⟩ := key k tk M lt h0 ht (fun X hX => ⟨Or.inl (hO X hX).2, (h1 X hX).2⟩) ho
  refine ⟨⟨by omega, fun X hX => ?_, k3⟩, k1⟩
  obtain ⟨L, l1, l2, l3⟩ := ps_end (k2 X hX).1
  exact ⟨⟨L, by have := (hO X hX).1; omega, l2, l3⟩, (k2 X hX).2⟩
/-- a short pass -/
theorem LI_short (hn : n ≤ 6) (hnb : NB_ nb) (hn6 : ∀ a b, nb a b = true → b < n) {r d : Nat} (hd : d ≤ 100000) {k : Nat} (hk9 : k ≤ 9) {tk : Int32} {M : MP} {lt : List LT} (h : LI r d n tk M lt) (ht : tk.toInt + k < 500000) : LI (r + 1) d n (mticks nb cst n k tk M lt).1 (mticks nb cst n k tk M lt).2.1 (mticks nb cst n k tk M lt).2.2 ∧ (mticks nb cst n k tk M lt).1.toInt = tk.toInt + k := by
  obtain ⟨h0, h1, ho⟩ := h
  have hc : ∀ X, ∃ L : List Int, X < n → L.length ≤ r ∧ RB_ X L tk M lt ∧ TT_ X L lt := fun X => by
    by_cases c : X < n
    · obtain ⟨⟨L, h2⟩, _⟩ := h1 X c
      exact ⟨L, fun _ => h2⟩
    · exact ⟨[], fun z => absurd z c⟩
  obtain ⟨O, hO⟩ : ∃ O : Nat → List Int, ∀ X, X < n → (O X).length ≤ r ∧ RB_ X (O X) tk M lt ∧ TT_ X (O X) lt := ⟨fun X => Classical.choose (hc X), fun X hX => Classical.choose_spec (hc X) hX⟩
  have key : ∀ (k j : Nat) (tk : Int32) (M : MP) (lt : List LT), j + k ≤ 9 → 0 ≤ tk.toInt → tk.toInt + k < 500000 → (∀ X, X < n → PS1 nb X (O X) j tk M lt ∧ sr_ (M X X) ≤ tk.toInt + d) → OG n M lt → (mticks nb cst n k tk M lt).1.toInt = tk.toInt + k ∧ (∀ X, X < n → PS1 nb X (O X) (j + k) (mticks nb cst n k tk M lt).1 (mticks nb cst n k tk M lt).2.1 (mticks nb cst n k tk M lt).2.2 ∧ sr_ ((mticks nb cst n k tk M lt).2.1 X X) ≤ (mticks nb cst n k tk M lt).1.toInt + d) ∧ OG n (mticks nb cst n k tk M lt).2.1 (mticks nb cst n k tk M lt).2.2 := by
    intro k
    induction k with
    | zero => intro j tk M lt hj h0 hk h ho; exact ⟨by show tk.toInt = tk.toInt + (0 : Nat); omega, h, ho⟩
    | succ k ih =>
      intro j tk M lt hj h0 hk h ho
      have et := toI1 h0 (by omega)
      have z := ih (j + 1) (tk + 1) (mtick nb cst n (tk + 1) M lt).1 (mtick nb cst n (tk + 1) M lt).2 (by omega) (by omega) (by omega) (fun X hX => by
        obtain ⟨p1, p2⟩ := ps1_tick (cst := cst) (tk := tk + 1) hn hX hnb hn6 (k := j) (by omega) (h X hX).1 et (fun s hs => by have := (h s hs).2; omega) (M' := (mtick nb cst n (tk + 1) M lt).1) (lt' := (mtick nb cst n (tk + 1) M lt).2) rfl
        exact ⟨p1, by have := (h X hX).2; omega⟩) (og_tick hn hnb ho)
      rw [show j + (k + 1) = j + 1 + k from by omega]
      unfold mticks
      exact ⟨by have := z.1; omega, z.2⟩
  obtain ⟨k1, k2, k3⟩ := key k 0 tk M lt (by omega) h0 ht (fun X hX => ⟨Or.inl (hO X hX).2, (h1 X hX).2⟩) ho
  refine ⟨⟨by omega, fun X hX => ?_, k3⟩, k1⟩
  obtain ⟨L, l1, l2, l3⟩ := ps1_end (k2 X hX).1
  exact ⟨⟨L, by have := (hO X hX).1; omega, l2, l3⟩, (k2 X hX).2⟩
end BOUND2
