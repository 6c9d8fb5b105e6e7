/-! SHORT PASSES; THE LETTERS' BOUND FOR THE NEXT TICKS -/
section BOUND
variable {nb : Nat → Nat → Bool} {cst : Nat → Nat → Int32} {n X : Nat}
/-- where a short pass stands -/
def PS1 (nb : Nat → Nat → Bool) (X : Nat) (O : List Int) (k : Nat) (tk : Int32) (M : MP) (lt : List LT) : Prop :=
  (RB_ X O tk M lt ∧ TT_ X O lt) ∨ (∃ (w : Int) (d : Nat), d + 1 ≤ k ∧ d ≤ 6 ∧ PHa nb X O [] w d tk M lt) ∨ ∃ (w : Int) (d : Nat), d + 1 ≤ k ∧ PHb nb X O w d tk M lt
theorem ps1_end {O : List Int} {k : Nat} {tk : Int32} {M : MP} {lt : List LT} (h : PS1 nb X O k tk M lt) : ∃ L : List Int, L.length ≤ O.length + 1 ∧ RB_ X L tk M lt ∧ TT_ X L lt := by
  rcases h with ⟨h, t⟩ | ⟨w, d, -, -, h⟩ | ⟨w, d, -, h⟩
  · exact ⟨O, by omega, h, t⟩
  · exact ⟨_, by rw [List.length_append, List.length_append, List.length_singleton, List.length_nil]; omega, h.rb, h.tt⟩
  · exact ⟨_, by rw [List.length_append, List.length_singleton]; omega, h.rb, h.tt⟩
theorem ps1_tick (hn : n ≤ 6) (hX : X < n) (hnb : NB_ nb) (hn6 : ∀ a b, nb a b = true → b < n) {O : List Int} {k : Nat} (hk9 : k ≤ 8) {tk0 tk : Int32} {M : MP} {lt : List LT} (h : PS1 nb X O k tk0 M lt)
    (ht : tk.toInt = tk0.toInt + 1) (hs : ∀ s, s < n → sr_ (M s s) < 2000000) {M' : MP} {lt' : List LT} (he : mtick nb cst n tk M lt = (M', lt')) : PS1 nb X O (k + 1) tk M' lt' ∧ sr_ (M' X X) ≤ sr_ (M X X) + 1 := by
  rcases h with ⟨h, t⟩ | ⟨w, d, hm, hd, h⟩ | ⟨w, d, hd, h⟩
  · by_cases c : tk.toInt - mA_ (M X X) < 10
    · obtain ⟨k1, k2, k3, -, -⟩ := tick_keep hn hX hnb h (by omega) hs c he
      exact ⟨Or.inl ⟨k1, k2⟩, by rw [k3]; omega⟩
    · have k := ph_fresh hn hX hnb hn6 (mid := []) (O := O) (by rw [List.append_nil]; exact h) (by rw [List.append_nil]; exact t) ⟨fun b => Or.inr ((h.wx b).imp id (fun z => z.2)), fun l hl z => Or.inl (h.lx l hl z)⟩ (fun v _ m hm => by cases hm) (by omega) hs c he
      exact ⟨Or.inr (Or.inl ⟨_, 0, by omega, by omega, k⟩), by rw [k.own]; exact Int.le_refl _⟩
  · by_cases c : d < 6
    · obtain ⟨k, e⟩ := ph_a hn hX hnb hn6 h c ht hs he
      exact ⟨Or.inr (Or.inl ⟨w, d + 1, by omega, by omega, k⟩), by rw [e]; omega⟩
    · have e6 : d = 6 := by omega
      subst e6
      obtain ⟨k, e⟩ := ph_ab hn hX hnb h ht hs he
      exact ⟨Or.inr (Or.inr ⟨w, 7, by omega, k⟩), by rw [e]; omega⟩
  · obtain ⟨k, e⟩ := ph_b hn hX hnb h (by omega) ht hs he
    exact ⟨Or.inr (Or.inr ⟨w, d + 1, by omega, k⟩), by rw [e]; omega⟩
/-- all origins are surveyors -/
def OG (n : Nat) (M : MP) (lt : List LT) : Prop := (∀ b o, 0 < sr_ (M b o) → og_ (M b o) < n) ∧ ∀ l ∈ lt, 0 < sr_ l.2.2 → og_ l.2.2 < n
theorem ph1_OG (hn : n ≤ 6) {tk : Int32} : ∀ (ss : List Nat) (M : MP) (out : List LT), (∀ s ∈ ss, s < n) → OG n M out → OG n (ss.foldl (mph1 nb cst n tk) (M, out)).1 (ss.foldl (mph1 nb cst n tk) (M, out)).2 := by
  intro ss
  induction ss with
  | nil => intro M out _ h; exact h
  | cons s ss ih =>
    intro M out hss h
    have hs := hss s List.mem_cons_self
    have hf : ∀ b o, 0 < sr_ (mfor n M s 20 tk b o) → og_ (mfor n M s 20 tk b o) < n := by
      intro b o
      unfold mfor
      split
      · intro z; rw [pg0_sr] at z; omega
      · exact h.1 b o
    have hst : OG n (mph1 nb cst n tk (M, out) s).1 (mph1 nb cst n tk (M, out) s).2 := by
      unfold mph1
      split
      · exact ⟨hf, h.2⟩
      · have hog : og_ (mnew nb cst n tk (mfor n M s 20 tk) s) = s := og_nI (by omega)
        refine ⟨fun b o => ?_, fun l hl => ?_⟩
        · show 0 < sr_ (mset (mfor n M s 20 tk) s s _ b o) → og_ (mset (mfor n M s 20 tk) s s _ b o) < n
          unfold mset
          split
          · intro _; rw [hog]; exact hs
          · exact hf b o
        · rcases List.mem_append.mp hl with y | y
          · exact h.2 l y
          · intro _; rw [(mem_msl y).2.1, hog]; exact hs
    rw [List.foldl_cons]
    generalize mph1 nb cst n tk (M, out) s = st at hst ⊢
    exact ih st.1 st.2 (fun x hx => hss x (List.mem_cons_of_mem _ hx)) hst
theorem og_tick (hn : n ≤ 6) (hnb : NB_ nb) {tk : Int32} {M : MP} {lt : List LT} (h : OG n M lt) : OG n (mtick nb cst n tk M lt).1 (mtick nb cst n tk M lt).2 := by
  have h1 := ph1_OG (nb := nb) (cst := cst) hn (tk := tk) (List.range n) M [] (fun s hs => List.mem_range.mp hs) ⟨h.1, fun l hl => absurd hl List.not_mem_nil⟩
  unfold mtick
  generalize (List.range n).foldl (mph1 nb cst n tk) (M, []) = st at h1 ⊢
  obtain ⟨M1, out1⟩ := st
  exact mdl_pages (P := fun _ p => 0 < sr_ p → og_ p < n) (fun _ _ _ _ z => z) (fun a b hab => (hnb a b hab).2.2.2) lt M1 out1 h1.1 (fun l hl _ => h.2 l hl) h1.2
/-- what the letters' count hangs on: r serials alive for every surveyor -/
def LI (r d n : Nat) (tk : Int32) (M : MP) (lt : List LT) : Prop := 0 ≤ tk.toInt ∧ (∀ X, X < n → (∃ L : List Int, L.length ≤ r ∧ RB_ X L tk M lt ∧ TT_ X L lt) ∧ sr_ (M X X) ≤ tk.toInt + d) ∧ OG n M lt
theorem cnt_le {r : Nat} {lt : List LT} (hn : n ≤ 6) (hlp : ∀ l ∈ lt, 0 < sr_ l.2.2) (ho : ∀ l ∈ lt, 0 < sr_ l.2.2 → og_ l.2.2 < n) (h : ∀ X, X < n → ∃ L : List Int, L.length ≤ r ∧ TT_ X L lt) : lt.length ≤ 6 * BB r := by
  have h6 := len_og lt (fun l hl => by have := ho l hl (hlp l hl); omega)
  have key : ∀ X, lt.countP (fun l => decide (og_ l.2.2 = X)) ≤ BB r := by
    intro X
    by_cases c : X < n
    · obtain ⟨L, hL, t⟩ := h X c
      exact Nat.le_trans t (BB_mono hL)
    · rw [List.countP_eq_zero.mpr (fun l hl z => by
        have := ho l hl (hlp l hl)
        have e := of_decide_eq_true z
        omega)]
      exact Nat.zero_le _
  simp only [s6_] at h6
  have k0 := key 0
  have k1 := key 1
  have k2 := key 2
  have k3 := key 3
  have k4 := key 4
  have k5 := key 5
  omega
end BOUND
