/-! A PASS in its phases -/
def sb_ (nb : Nat → Nat → Bool) (X : Nat) : Nat → Nat → Bool
  | 0, b => decide (b = X)
  | j + 1, b => sb_ nb X j b || (List.range 6).any (fun a => sb_ nb X j a && nb a b)
theorem cP_lt {p q : Nat → Bool} : ∀ {l : List Nat} {x : Nat}, (∀ y, p y = true → q y = true) → x ∈ l → q x = true → p x ≠ true → l.countP p + 1 ≤ l.countP q
  | [], _, _, h, _, _ => nomatch h
  | a :: l, x, hpq, hx, hq, hp => by
    rw [List.countP_cons, List.countP_cons]
    have hm : l.countP p ≤ l.countP q := List.countP_mono_left (fun y _ h => hpq y h)
    rcases List.mem_cons.mp hx with e | e
    · subst e
      rw [if_pos hq, if_neg hp]
      omega
    · have ih := cP_lt hpq e hq hp
      by_cases h : p a = true
      · rw [if_pos h, if_pos (hpq a h)]; omega
      · rw [if_neg h]; omega
section PHASES
variable {nb : Nat → Nat → Bool} {cst : Nat → Nat → Int32} {n X : Nat}
theorem sb_step {j b : Nat} : sb_ nb X (j + 1) b = true ↔ sb_ nb X j b = true ∨ ∃ a, a < 6 ∧ sb_ nb X j a = true ∧ nb a b = true := by
  show (sb_ nb X j b || (List.range 6).any (fun a => sb_ nb X j a && nb a b)) = true ↔ _
  rw [Bool.or_eq_true, List.any_eq_true]
  refine or_congr Iff.rfl ⟨fun ⟨a, h1, h2⟩ => ?_, fun ⟨a, h1, h2, h3⟩ => ⟨a, List.mem_range.mpr h1, by rw [h2, h3]; rfl⟩⟩
  rw [Bool.and_eq_true] at h2
  exact ⟨a, List.mem_range.mp h1, h2.1, h2.2⟩
theorem sb_X : ∀ j, sb_ nb X j X = true
  | 0 => decide_eq_true rfl
  | j + 1 => sb_step.mpr (Or.inl (sb_X j))
theorem sb_lt (hX : X < 6) (hnb : NB_ nb) : ∀ {j b : Nat}, sb_ nb X j b = true → b < 6
  | 0, b, h => by rw [of_decide_eq_true h]; exact hX
  | j + 1, b, h => (sb_step.mp h).elim (fun z => sb_lt hX hnb z) (fun ⟨a, _, _, z⟩ => (hnb a b z).2.1)
def cl_ (nb : Nat → Nat → Bool) (X j : Nat) : Prop := ∀ a b, nb a b = true → sb_ nb X j a = true → sb_ nb X j b = true
theorem cl_up {j : Nat} (h : cl_ nb X j) : cl_ nb X (j + 1) := fun a b hab ha => by
  refine sb_step.mpr (Or.inl ?_)
  rcases sb_step.mp ha with z | ⟨c, -, z1, z2⟩
  · exact h a b hab z
  · exact h a b hab (h c a z2 z1)
theorem sb_grow (hX : X < 6) (hnb : NB_ nb) : ∀ j, cl_ nb X j ∨ j + 1 ≤ (List.range 6).countP (sb_ nb X j)
  | 0 => Or.inr (List.countP_pos_iff.mpr ⟨X, List.mem_range.mpr hX, sb_X 0⟩)
  | j + 1 => by
    by_cases c : cl_ nb X j
    · exact Or.inl (cl_up c)
    · have ih := (sb_grow hX hnb j).resolve_left c
      unfold cl_ at c
      obtain ⟨a, c⟩ := Classical.not_forall.mp c
      obtain ⟨b, c⟩ := Classical.not_forall.mp c
      obtain ⟨c1, c⟩ := Classical.not_imp.mp c
      obtain ⟨c2, c3⟩ := Classical.not_imp.mp c
      have h9 := hnb a b c1
      have := cP_lt (p := sb_ nb X j) (q := sb_ nb X (j + 1)) (l := List.range 6) (x := b) (fun y hy => sb_step.mpr (Or.inl hy)) (List.mem_range.mpr h9.2.1) (sb_step.mpr (Or.inr ⟨a, h9.1, c2, c1⟩)) c3
      exact Or.inr (by omega)
theorem sb_cl (hX : X < 6) (hnb : NB_ nb) : cl_ nb X 5 := by
  rcases sb_grow hX hnb 5 with h | h
  · exact h
  · intro a b hab _
    have h6 : (List.range 6).countP (sb_ nb X 5) ≤ 6 := List.countP_le_length
    have e : (List.range 6).countP (sb_ nb X 5) = (List.range 6).length := by
      rw [List.length_range]; omega
    exact List.countP_eq_length.mp e b (List.mem_range.mpr (hnb a b hab).2.1)
/-- where X's newest pages don't come, X's serials are the old ones -/
def CF_ (nb : Nat → Nat → Bool) (X : Nat) (O : List Int) (M : MP) (lt : List LT) : Prop := (∀ b, sb_ nb X 5 b = true ∨ sr_ (M b X) = 0 ∨ sr_ (M b X) ∈ O) ∧ ∀ l ∈ lt, og_ l.2.2 = X → sr_ l.2.2 ∈ O ∨ sb_ nb X 5 l.1 = true
theorem conf_tick (hX : X < 6) (hnb : NB_ nb) {O : List Int} {M1 M' : MP} {ren lt lt' : List LT} (wo : WO2_ M1) (wo' : WO2_ M') (lp : ∀ l ∈ lt', 0 < sr_ l.2.2) (h1 : ∀ b, sb_ nb X 5 b = true ∨ sr_ (M1 b X) = 0 ∨ sr_ (M1 b X) ∈ O)
    (h2 : ∀ l ∈ lt, og_ l.2.2 = X → sr_ l.2.2 ∈ O ∨ sb_ nb X 5 l.1 = true) (h3 : ∀ l ∈ ren, og_ l.2.2 = X → sb_ nb X 5 l.1 = true) (he : lt.foldl (mdl nb n) (M1, ren) = (M', lt')) : CF_ nb X O M' lt' := by
  have hs : ∀ a b, nb a b = true → nb b a = true := fun a b h => (hnb a b h).2.2.2
  have hC := sb_cl hX hnb
  have k := mdl_pages (nb := nb) (n := n) (P := fun b p => og_ p = X → sr_ p = 0 ∨ sr_ p ∈ O ∨ sb_ nb X 5 b = true) (fun a b p hab h z => (h z).imp id (fun y => y.imp id (fun x => hC a b hab x))) hs lt M1 ren (fun b o z => by
    rcases wo b o with y | y
    · rw [y]; exact Or.inl pg0_s
    · have e : o = X := y.1.symm.trans z
      subst e
      rcases h1 b with x | x | x
      · exact Or.inr (Or.inr x)
      · exact Or.inl x
      · exact Or.inr (Or.inl x)) (fun l hl hab z => by
    rcases h2 l hl z with y | y
    · exact Or.inr (Or.inl y)
    · exact Or.inr (Or.inr (hC _ _ hab y))) (fun l hl z => Or.inr (Or.inr (h3 l hl z)))
  rw [he] at k
  obtain ⟨k1, k2⟩ := k
  refine ⟨fun b => ?_, fun l hl z => ?_⟩
  · rcases wo' b X with y | y
    · exact Or.inr (Or.inl (by rw [y]; exact pg0_s))
    · rcases k1 b X y.1 with x | x | x
      · exact Or.inr (Or.inl x)
      · exact Or.inr (Or.inr x)
      · exact Or.inl x
  · rcases k2 l hl z with y | y | y
    · have := lp l hl
      omega
    · exact Or.inl y
    · exact Or.inr y
/-- within six ticks of a new page -/
abbrev PHa (nb : Nat → Nat → Bool) (X : Nat) (O mid : List Int) (w : Int) (d : Nat) (tk : Int32) (M : MP) (lt : List LT) : Prop :=
  (RB_ X (O ++ (mid ++ [w])) tk M lt) ∧
  (TT_ X (O ++ (mid ++ [w])) lt) ∧
  (sr_ (M X X) = w) ∧
  (mA_ (M X X) = tk.toInt - d) ∧
  (∀ l ∈ lt, nb l.1 l.2.1 = true) ∧
  (CF_ nb X O M lt) ∧
  (∀ v ∈ O, ∀ m ∈ mid ++ [w], v < m) ∧
  (∀ b, sr_ (M b X) = w → mA_ (M b X) = tk.toInt - d) ∧
  (∀ l ∈ lt, og_ l.2.2 = X → sr_ l.2.2 = w → mA_ l.2.2 = tk.toInt - d) ∧
  (∀ l ∈ lt, og_ l.2.2 = X → sr_ l.2.2 = w → sr_ (M l.1 X) = w) ∧
  (∀ b c, sr_ (M b X) = w → nb b c = true → c ≠ X → sr_ (M c X) = w ∨ ∃ l, l ∈ lt ∧ l.1 = b ∧ l.2.1 = c ∧ og_ l.2.2 = X ∧ sr_ l.2.2 = w) ∧
  (∀ b, sb_ nb X d b = true → sr_ (M b X) = w) ∧
  (d = 6 → ∀ l ∈ lt, og_ l.2.2 = X → sb_ nb X 5 l.1 = true → sr_ l.2.2 = w)
theorem PHa.rb {nb : Nat → Nat → Bool} {X : Nat} {O mid : List Int} {w : Int} {d : Nat} {tk : Int32} {M : MP} {lt : List LT} (h : PHa nb X O mid w d tk M lt) : RB_ X (O ++ (mid ++ [w])) tk M lt := h.1
theorem PHa.tt {nb : Nat → Nat → Bool} {X : Nat} {O mid : List Int} {w : Int} {d : Nat} {tk : Int32} {M : MP} {lt : List LT} (h : PHa nb X O mid w d tk M lt) : TT_ X (O ++ (mid ++ [w])) lt := h.2.1
theorem PHa.own {nb : Nat → Nat → Bool} {X : Nat} {O mid : List Int} {w : Int} {d : Nat} {tk : Int32} {M : MP} {lt : List LT} (h : PHa nb X O mid w d tk M lt) : sr_ (M X X) = w := h.2.2.1
theorem PHa.om {nb : Nat → Nat → Bool} {X : Nat} {O mid : List Int} {w : Int} {d : Nat} {tk : Int32} {M : MP} {lt : List LT} (h : PHa nb X O mid w d tk M lt) : mA_ (M X X) = tk.toInt - d := h.2.2.2.1
theorem PHa.nbl {nb : Nat → Nat → Bool} {X : Nat} {O mid : List Int} {w : Int} {d : Nat} {tk : Int32} {M : MP} {lt : List LT} (h : PHa nb X O mid w d tk M lt) : ∀ l ∈ lt, nb l.1 l.2.1 = true := h.2.2.2.2.1
theorem PHa.cf {nb : Nat → Nat → Bool} {X : Nat} {O mid : List Int} {w : Int} {d : Nat} {tk : Int32} {M : MP} {lt : List LT} (h : PHa nb X O mid w d tk M lt) : CF_ nb X O M lt := h.2.2.2.2.2.1
theorem PHa.ord {nb : Nat → Nat → Bool} {X : Nat} {O mid : List Int} {w : Int} {d : Nat} {tk : Int32} {M : MP} {lt : List LT} (h : PHa nb X O mid w d tk M lt) : ∀ v ∈ O, ∀ m ∈ mid ++ [w], v < m := h.2.2.2.2.2.2.1
theorem PHa.yw {nb : Nat → Nat → Bool} {X : Nat} {O mid : List Int} {w : Int} {d : Nat} {tk : Int32} {M : MP} {lt : List LT} (h : PHa nb X O mid w d tk M lt) : ∀ b, sr_ (M b X) = w → mA_ (M b X) = tk.toInt - d := h.2.2.2.2.2.2.2.1
theorem PHa.yl {nb : Nat → Nat → Bool} {X : Nat} {O mid : List Int} {w : Int} {d : Nat} {tk : Int32} {M : MP} {lt : List LT} (h : PHa nb X O mid w d tk M lt) : ∀ l ∈ lt, og_ l.2.2 = X → sr_ l.2.2 = w → mA_ l.2.2 = tk.toInt - d := h.2.2.2.2.2.2.2.2.1
theorem PHa.sw {nb : Nat → Nat → Bool} {X : Nat} {O mid : List Int} {w : Int} {d : Nat} {tk : Int32} {M : MP} {lt : List LT} (h : PHa nb X O mid w d tk M lt) : ∀ l ∈ lt, og_ l.2.2 = X → sr_ l.2.2 = w → sr_ (M l.1 X) = w := h.2.2.2.2.2.2.2.2.2.1
theorem PHa.jj {nb : Nat → Nat → Bool} {X : Nat} {O mid : List Int} {w : Int} {d : Nat} {tk : Int32} {M : MP} {lt : List LT} (h : PHa nb X O mid w d tk M lt) : ∀ b c, sr_ (M b X) = w → nb b c = true → c ≠ X → sr_ (M c X) = w ∨ ∃ l, l ∈ lt ∧ l.1 = b ∧ l.2.1 = c ∧ og_ l.2.2 = X ∧ sr_ l.2.2 = w := h.2.2.2.2.2.2.2.2.2.2.1
theorem PHa.pr {nb : Nat → Nat → Bool} {X : Nat} {O mid : List Int} {w : Int} {d : Nat} {tk : Int32} {M : MP} {lt : List LT} (h : PHa nb X O mid w d tk M lt) : ∀ b, sb_ nb X d b = true → sr_ (M b X) = w := h.2.2.2.2.2.2.2.2.2.2.2.1
theorem PHa.l6 {nb : Nat → Nat → Bool} {X : Nat} {O mid : List Int} {w : Int} {d : Nat} {tk : Int32} {M : MP} {lt : List LT} (h : PHa nb X O mid w d tk M lt) : d = 6 → ∀ l ∈ lt, og_ l.2.2 = X → sb_ nb X 5 l.1 = true → sr_ l.2.2 = w := h.2.2.2.2.2.2.2.2.2.2.2.2
/-- later -/
abbrev PHb (nb : Nat → Nat → Bool) (X : Nat) (O : List Int) (w : Int) (d : Nat) (tk : Int32) (M : MP) (lt : List LT) : Prop :=
  (RB_ X (O ++ [w]) tk M lt) ∧
  (TT_ X (O ++ [w]) lt) ∧
  (sr_ (M X X) = w) ∧
  (mA_ (M X X) = tk.toInt - d) ∧
  (∀ l ∈ lt, nb l.1 l.2.1 = true) ∧
  (CF_ nb X O M lt) ∧
  (∀ v ∈ O, v < w)
theorem PHb.rb {nb : Nat → Nat → Bool} {X : Nat} {O : List Int} {w : Int} {d : Nat} {tk : Int32} {M : MP} {lt : List LT} (h : PHb nb X O w d tk M lt) : RB_ X (O ++ [w]) tk M lt := h.1
theorem PHb.tt {nb : Nat → Nat → Bool} {X : Nat} {O : List Int} {w : Int} {d : Nat} {tk : Int32} {M : MP} {lt : List LT} (h : PHb nb X O w d tk M lt) : TT_ X (O ++ [w]) lt := h.2.1
theorem PHb.own {nb : Nat → Nat → Bool} {X : Nat} {O : List Int} {w : Int} {d : Nat} {tk : Int32} {M : MP} {lt : List LT} (h : PHb nb X O w d tk M lt) : sr_ (M X X) = w := h.2.2.1
theorem PHb.om {nb : Nat → Nat → Bool} {X : Nat} {O : List Int} {w : Int} {d : Nat} {tk : Int32} {M : MP} {lt : List LT} (h : PHb nb X O w d tk M lt) : mA_ (M X X) = tk.toInt - d := h.2.2.2.1
theorem PHb.nbl {nb : Nat → Nat → Bool} {X : Nat} {O : List Int} {w : Int} {d : Nat} {tk : Int32} {M : MP} {lt : List LT} (h : PHb nb X O w d tk M lt) : ∀ l ∈ lt, nb l.1 l.2.1 = true := h.2.2.2.2.1
theorem PHb.cf {nb : Nat → Nat → Bool} {X : Nat} {O : List Int} {w : Int} {d : Nat} {tk : Int32} {M : MP} {lt : List LT} (h : PHb nb X O w d tk M lt) : CF_ nb X O M lt := h.2.2.2.2.2.1
theorem PHb.ord {nb : Nat → Nat → Bool} {X : Nat} {O : List Int} {w : Int} {d : Nat} {tk : Int32} {M : MP} {lt : List LT} (h : PHb nb X O w d tk M lt) : ∀ v ∈ O, v < w := h.2.2.2.2.2.2
/-- pages of one serial have one age -/
theorem age_w (hnb : NB_ nb) {w t0 : Int} (hw : 0 < w) {M1 M' : MP} {ren lt lt' : List LT} (wo : WO2_ M1) (wo' : WO2_ M') (h1 : ∀ b, sr_ (M1 b X) = w → mA_ (M1 b X) = t0)
    (h2 : ∀ l ∈ lt, og_ l.2.2 = X → sr_ l.2.2 = w → mA_ l.2.2 = t0) (h3 : ∀ l ∈ ren, og_ l.2.2 = X → sr_ l.2.2 = w → mA_ l.2.2 = t0) (he : lt.foldl (mdl nb n) (M1, ren) = (M', lt')) :
    (∀ b, sr_ (M' b X) = w → mA_ (M' b X) = t0) ∧ ∀ l ∈ lt', og_ l.2.2 = X → sr_ l.2.2 = w → mA_ l.2.2 = t0 := by
  have hs : ∀ a b, nb a b = true → nb b a = true := fun a b h => (hnb a b h).2.2.2
  have k := mdl_pages (nb := nb) (n := n) (P := fun _ p => og_ p = X → sr_ p = w → mA_ p = t0) (fun _ _ _ _ h => h) hs lt M1 ren (fun b o z y => by
    rcases wo b o with x | x
    · rw [x, pg0_sr] at y; omega
    · have e : o = X := x.1.symm.trans z
      subst e
      exact h1 b y) (fun l hl _ => h2 l hl) (fun l hl => h3 l hl)
  rw [he] at k
  refine ⟨fun b y => ?_, k.2⟩
  rcases wo' b X with x | x
  · rw [x, pg0_sr] at y; omega
  · exact k.1 b X x.1 y
/-- a new page -/
theorem ph_fresh (hn : n ≤ 6) (hX : X < n) (hnb : NB_ nb) (hn6 : ∀ a b, nb a b = true → b < n) {O mid : List Int} {tk0 tk : Int32} {M : MP} {lt : List LT} (h : RB_ X (O ++ mid) tk0 M lt) (ht9 : TT_ X (O ++ mid) lt) (cf : CF_ nb X O M lt) (ord : ∀ v ∈ O, ∀ m ∈ mid, v < m)
    (ht : tk0.toInt ≤ tk.toInt) (hs : ∀ s, s < n → sr_ (M s s) < 2000000) (hk : ¬ tk.toInt - mA_ (M X X) < 10) {M' : MP} {lt' : List LT} (he : mtick nb cst n tk M lt = (M', lt')) :
    PHa nb X O mid (sr_ (M X X) + 1) 0 tk M' lt' := by
  obtain ⟨k1, k2, k3, M1, ren, r1, r2, p, e1, w1, o1, o2, ⟨p1, p2, p3⟩, col, e2, rn, q1, q2⟩ := tick_fresh hn hX hnb h ht9 ht hs hk he
  have hX6 : X < 6 := by omega
  have h0 := h.wo.nn X X
  have lw : ∀ l ∈ lt, og_ l.2.2 = X → sr_ l.2.2 ≤ sr_ (M X X) := fun l hl z => h.top _ (h.lx l hl z)
  have colw : ∀ b, sr_ (M1 b X) = sr_ (M X X) + 1 → b = X := fun b z => by
    by_cases hb : b = X
    · exact hb
    · rcases col b hb with y | y
      · rw [y] at z; have := h.le b; omega
      · rw [y, pg0_sr] at z; omega
  have renX : ∀ l ∈ ren, og_ l.2.2 = X → l.1 = X ∧ l.2.2 = p := fun l hl z => by
    rw [e2] at hl
    rcases List.mem_append.mp hl with y | y
    · rcases List.mem_append.mp y with x | x
      · exact absurd z (q1 l x)
      · obtain ⟨m1, m2, -, -, -⟩ := mem_msl x
        exact ⟨m1, m2⟩
    · exact absurd z (q2 l y)
  have c := conf_tick hX6 hnb (O := O) w1 k1.wo k1.lp (fun b => by
    by_cases hb : b = X
    · subst hb; exact Or.inl (sb_X 5)
    · rcases col b hb with y | y
      · rw [y]; exact cf.1 b
      · rw [y]; exact Or.inr (Or.inl pg0_s)) cf.2 (fun l hl z => by rw [(renX l hl z).1]; exact sb_X 5) e1
  have y := age_w hnb (X := X) (w := sr_ (M X X) + 1) (t0 := tk.toInt) (by omega) w1 k1.wo (fun b z => by rw [colw b z, o1]; exact p3) (fun l hl z z2 => by have := lw l hl z; omega) (fun l hl z _ => by rw [(renX l hl z).2]; exact p3) e1
  have w := mdl_w (X := X) (w := sr_ (M X X) + 1) hnb hn6 (by omega) lt M1 ren w1.wo h.lp (fun b => by
      by_cases hb : b = X
      · subst hb; rw [o1, p2]; exact Int.le_refl _
      · rcases col b hb with y | y
        · rw [y]; have := h.le b; omega
        · rw [y, pg0_sr]; omega) (fun l hl z => by have := lw l hl z; omega) (fun l hl z z2 => by have := lw l hl z; omega) (fun l hl z _ => by rw [(renX l hl z).1, o1]; exact p2) (fun b c z1 z2 z3 => by
      have e := colw b z1
      have z4 : nb X c = true := by rw [← e]; exact z2
      have h9 := hnb X c z4
      exact Or.inr ⟨(X, c, p), Or.inr (by rw [e2]; exact List.mem_append_left _ (List.mem_append_right _ (msl_mem (hn6 X c z4) (by omega) z4))), e.symm, rfl, p1, p2⟩) M' lt' e1
  obtain ⟨-, -, w3, w4, w5, -⟩ := w
  have e9 : (O ++ mid) ++ [sr_ (M X X) + 1] = O ++ (mid ++ [sr_ (M X X) + 1]) := List.append_assoc _ _ _
  refine ⟨by rw [← e9]; exact k1, by rw [← e9]; exact k2, by rw [o2]; exact p2, by rw [o2, p3]; omega, k3, c, fun v hv m hm => ?_, fun b z => by rw [y.1 b z]; omega, fun l hl z z2 => by rw [y.2 l hl z z2]; omega, w4, w5, fun b z => ?_, fun z => by cases z⟩
  · rcases List.mem_append.mp hm with z | z
    · exact ord v hv m z
    · rw [List.mem_singleton.mp z]
      have := h.top v (List.mem_append_left _ hv)
      omega
  · rw [of_decide_eq_true z, o2]; exact p2
/-- a tick, up to the sixth -/
theorem ph_a (hn : n ≤ 6) (hX : X < n) (hnb : NB_ nb) (hn6 : ∀ a b, nb a b = true → b < n) {O mid : List Int} {w : Int} {d : Nat} {tk0 tk : Int32} {M : MP} {lt : List LT} (h : PHa nb X O mid w d tk0 M lt) (hd : d < 6)
    (ht : tk.toInt = tk0.toInt + 1) (hs : ∀ s, s < n → sr_ (M s s) < 2000000) {M' : MP} {lt' : List LT} (he : mtick nb cst n tk M lt = (M', lt')) : PHa nb X O mid w (d + 1) tk M' lt' ∧ M' X X = M X X := by
  have hm := h.om
  obtain ⟨k1, k2, k3, k4, M1, ren, e1, w1, o1, col, rn⟩ := tick_keep (tk := tk) hn hX hnb h.rb (by omega) hs (by rw [hm]; omega) he
  have hX6 : X < 6 := by omega
  have hw0 : 0 < w := h.rb.pos w (List.mem_append_right _ (List.mem_append_right _ List.mem_cons_self))
  have c20 : (20 : Int32).toInt = 20 := by decide +kernel
  have keep : ∀ b, sr_ (M b X) = w → M1 b X = M b X := fun b z => by
    by_cases hb : b = X
    · subst hb; exact o1
    · rcases col b hb with y | ⟨-, y⟩
      · exact y
      · refine absurd ((ageI (h.rb.ag b).1 ?_).mpr ?_) y
        · have := (h.rb.ag b).2; unfold mA_ at this; omega
        · have := h.yw b z; unfold mA_ at this; rw [c20, this]; omega
  have back : ∀ b, sr_ (M1 b X) = w → sr_ (M b X) = w := fun b z => by
    by_cases hb : b = X
    · subst hb; rw [← o1]; exact z
    · rcases col b hb with y | ⟨y, -⟩
      · rw [← y]; exact z
      · rw [y, pg0_sr] at z; omega
  have lw : ∀ l ∈ lt, og_ l.2.2 = X → sr_ l.2.2 ≤ w := fun l hl z => by rw [← h.own]; exact h.rb.top _ (h.rb.lx l hl z)
  have c := conf_tick hX6 hnb (O := O) w1 k1.wo k1.lp (fun b => by
    by_cases hb : b = X
    · subst hb; exact Or.inl (sb_X 5)
    · rcases col b hb with y | ⟨y, -⟩
      · rw [y]; exact h.cf.1 b
      · rw [y]; exact Or.inr (Or.inl pg0_s)) h.cf.2 (fun l hl z => absurd z (rn l hl).1) e1
  have y := age_w hnb (X := X) (w := w) (t0 := tk0.toInt - d) hw0 w1 k1.wo (fun b z => by rw [keep b (back b z)]; exact h.yw b (back b z)) (fun l hl z z2 => h.yl l hl z z2) (fun l hl z _ => absurd z (rn l hl).1) e1
  have q := mdl_w (X := X) (w := w) hnb hn6 hw0 lt M1 ren w1.wo h.rb.lp (fun b => by
      by_cases hb : b = X
      · subst hb; rw [o1, h.own]; exact Int.le_refl _
      · rcases col b hb with y | ⟨y, -⟩
        · rw [y, ← h.own]; exact h.rb.le b
        · rw [y, pg0_sr]; omega) lw (fun l hl z z2 => by
      have e := h.sw l hl z z2
      rw [keep _ e]; exact e) (fun l hl z _ => absurd z (rn l hl).1) (fun b c z1 z2 z3 => by
      rcases h.jj b c (back b z1) z2 z3 with y | ⟨l, y1, y2⟩
      · exact Or.inl (by rw [keep c y]; exact y)
      · exact Or.inr ⟨l, Or.inl y1, y2⟩) M' lt' e1
  obtain ⟨-, g2, -, g4, g5, g6⟩ := q
  have stay : ∀ b, sr_ (M b X) = w → sr_ (M' b X) = w := fun b z => g2 b (by rw [keep b z]; exact z)
  refine ⟨⟨k1, k2, by rw [k3]; exact h.own, by rw [k3, hm]; omega, k4, c, h.ord, fun b z => by rw [y.1 b z]; omega, fun l hl z z2 => by rw [y.2 l hl z z2]; omega, g4, g5, fun b z => ?_, fun e l hl z z2 => ?_⟩, k3⟩
  · rcases sb_step.mp z with y | ⟨a, -, y1, y2⟩
    · exact stay b (h.pr b y)
    · by_cases hb : b = X
      · subst hb; rw [k3]; exact h.own
      · rcases h.jj a b (h.pr a y1) y2 hb with x | ⟨l, x1, x2, x3, x4, x5⟩
        · exact stay b x
        · have := g6 l x1 x4 x5 (by rw [x2, x3]; exact y2) (by rw [x3]; exact hb)
          rw [x3] at this
          exact this
  · have e5 : d = 5 := by omega
    subst e5
    have k := mdl_new (n := n) (X := X) (w := w) (Cl := fun b => sb_ nb X 5 b = true) hnb (sb_cl hX6 hnb) lt M1 ren w1.wo h.rb.lp lw (fun b hb => by
      have e := h.pr b hb
      rw [keep b e]; exact e) (fun l hl z _ => absurd z (rn l hl).1)
    rw [e1] at k
    exact k l hl z z2
/-- the seventh -/
theorem ph_ab (hn : n ≤ 6) (hX : X < n) (hnb : NB_ nb) {O mid : List Int} {w : Int} {tk0 tk : Int32} {M : MP} {lt : List LT} (h : PHa nb X O mid w 6 tk0 M lt)
    (ht : tk.toInt = tk0.toInt + 1) (hs : ∀ s, s < n → sr_ (M s s) < 2000000) {M' : MP} {lt' : List LT} (he : mtick nb cst n tk M lt = (M', lt')) : PHb nb X O w 7 tk M' lt' ∧ M' X X = M X X := by
  have hX6 : X < 6 := by omega
  have hm := h.om
  have ow : ∀ v ∈ O, v < w := fun v hv => h.ord v hv w (List.mem_append_right _ List.mem_cons_self)
  have inw : w ∈ O ++ [w] := List.mem_append_right _ List.mem_cons_self
  have inO : ∀ {v : Int}, v ∈ O → v ∈ O ++ [w] := fun hv => List.mem_append_left _ hv
  have hlx : LX_ X (O ++ [w]) lt := fun l hl z => by
    rcases h.cf.2 l hl z with y | y
    · exact inO y
    · rw [h.l6 rfl l hl z y]; exact inw
  have r : RB_ X (O ++ [w]) tk0 M lt := by
    refine ⟨fun v hv => h.rb.pos v ?_, h.rb.wo, fun b => ?_, hlx, fun v hv => h.rb.top v ?_, h.rb.lp, h.rb.ag, h.rb.lg, fun ρ hρ => ?_⟩
    · rcases List.mem_append.mp hv with z | z
      · exact List.mem_append_left _ z
      · exact List.mem_append_right _ (List.mem_append_right _ z)
    · rcases h.rb.wo b X with z | z
      · exact Or.inl (by rw [z]; exact pg0_s)
      · rcases h.cf.1 b with y | y | y
        · refine Or.inr ⟨z.1, ?_⟩
          rw [h.pr b (sb_step.mpr (Or.inl y))]
          exact inw
        · exact Or.inl y
        · exact Or.inr ⟨z.1, inO y⟩
    · rcases List.mem_append.mp hv with z | z
      · exact List.mem_append_left _ z
      · exact List.mem_append_right _ (List.mem_append_right _ z)
    · rw [List.length_append, List.length_singleton] at hρ
      refine Nat.le_trans (List.countP_mono_left (fun l hl z => ?_)) (h.rb.cn ρ (by rw [List.length_append, List.length_append, List.length_singleton]; omega))
      obtain ⟨z1, z2⟩ := of_decide_eq_true z
      refine decide_eq_true ⟨z1, ?_⟩
      rcases List.mem_append.mp (hlx l hl z1) with y | y
      · rw [rk_app2 (fun v hv => h.ord _ y v hv)]
        rw [rk_app (ow _ y)] at z2
        exact z2
      · rw [List.mem_singleton.mp y, rk_top (fun v hv => by
          rcases List.mem_append.mp hv with x | x
          · exact Int.le_of_lt (ow v x)
          · rw [List.mem_singleton.mp x]; exact Int.le_refl _), List.length_append, List.length_singleton] at z2
        omega
  obtain ⟨k1, k2, k3, k4, M1, ren, e1, w1, o1, col, rn⟩ := tick_keep (tk := tk) hn hX hnb r (by omega) hs (by rw [hm]; omega) he
  have c := conf_tick hX6 hnb (O := O) w1 k1.wo k1.lp (fun b => by
    by_cases hb : b = X
    · subst hb; exact Or.inl (sb_X 5)
    · rcases col b hb with y | ⟨y, -⟩
      · rw [y]; exact h.cf.1 b
      · rw [y]; exact Or.inr (Or.inl pg0_s)) h.cf.2 (fun l hl z => absurd z (rn l hl).1) e1
  exact ⟨⟨k1, k2, by rw [k3]; exact h.own, by rw [k3, hm]; omega, k4, c, ow⟩, k3⟩
/-- the eighth and ninth -/
theorem ph_b (hn : n ≤ 6) (hX : X < n) (hnb : NB_ nb) {O : List Int} {w : Int} {d : Nat} {tk0 tk : Int32} {M : MP} {lt : List LT} (h : PHb nb X O w d tk0 M lt) (hd : d < 9)
    (ht : tk.toInt = tk0.toInt + 1) (hs : ∀ s, s < n → sr_ (M s s) < 2000000) {M' : MP} {lt' : List LT} (he : mtick nb cst n tk M lt = (M', lt')) : PHb nb X O w (d + 1) tk M' lt' ∧ M' X X = M X X := by
  have hX6 : X < 6 := by omega
  have hm := h.om
  obtain ⟨k1, k2, k3, k4, M1, ren, e1, w1, o1, col, rn⟩ := tick_keep (tk := tk) hn hX hnb h.rb (by omega) hs (by rw [hm]; omega) he
  have c := conf_tick hX6 hnb (O := O) w1 k1.wo k1.lp (fun b => by
    by_cases hb : b = X
    · subst hb; exact Or.inl (sb_X 5)
    · rcases col b hb with y | ⟨y, -⟩
      · rw [y]; exact h.cf.1 b
      · rw [y]; exact Or.inr (Or.inl pg0_s)) h.cf.2 (fun l hl z => absurd z (rn l hl).1) e1
  exact ⟨⟨k1, k2, by rw [k3]; exact h.own, by rw [k3, hm]; omega, k4, c, h.ord⟩, k3⟩
/-- where a pass stands -/
abbrev PS_ (nb : Nat → Nat → Bool) (X : Nat) (O : List Int) (tk : Int32) (M : MP) (lt : List LT) : Prop :=
  (RB_ X O tk M lt ∧ TT_ X O lt) ∨ (∃ (mid : List Int) (w : Int) (d : Nat), mid.length ≤ 1 ∧ d ≤ 6 ∧ PHa nb X O mid w d tk M lt) ∨ ∃ (w : Int) (d : Nat), d ≤ 9 ∧ PHb nb X O w d tk M lt
theorem ps_end {O : List Int} {tk : Int32} {M : MP} {lt : List LT} (h : PS_ nb X O tk M lt) : ∃ L : List Int, L.length ≤ O.length + 2 ∧ RB_ X L tk M lt ∧ TT_ X L lt := by
  rcases h with ⟨h, t⟩ | ⟨mid, w, d, hm, -, h⟩ | ⟨w, d, -, h⟩
  · exact ⟨O, by omega, h, t⟩
  · exact ⟨_, by rw [List.length_append, List.length_append, List.length_singleton]; omega, h.rb, h.tt⟩
  · exact ⟨_, by rw [List.length_append, List.length_singleton]; omega, h.rb, h.tt⟩
/-- a tick of a pass -/
theorem ps_tick (hn : n ≤ 6) (hX : X < n) (hnb : NB_ nb) (hn6 : ∀ a b, nb a b = true → b < n) {O : List Int} {tk0 tk : Int32} {M : MP} {lt : List LT} (h : PS_ nb X O tk0 M lt)
    (ht : tk.toInt = tk0.toInt + 1) (hs : ∀ s, s < n → sr_ (M s s) < 2000000) {M' : MP} {lt' : List LT} (he : mtick nb cst n tk M lt = (M', lt')) : PS_ nb X O tk M' lt' ∧ sr_ (M' X X) ≤ sr_ (M X X) + 1 := by
  rcases h with ⟨h, t⟩ | ⟨mid, w, d, hm, hd, h⟩ | ⟨w, d, hd, h⟩
  · by_cases c : tk.toInt - mA_ (M X X) < 10
    · obtain ⟨k1, k2, k3, -, -⟩ := tick_keep hn hX hnb h (by omega) hs c he
      exact ⟨Or.inl ⟨k1, k2⟩, by rw [k3]; omega⟩
    · have k := ph_fresh hn hX hnb hn6 (mid := []) (O := O) (by rw [List.append_nil]; exact h) (by rw [List.append_nil]; exact t) ⟨fun b => Or.inr ((h.wx b).imp id (fun z => z.2)), fun l hl z => Or.inl (h.lx l hl z)⟩ (fun v _ m hm => by cases hm) (by omega) hs c he
      exact ⟨Or.inr (Or.inl ⟨[], _, 0, by decide, by omega, k⟩), by rw [k.own]; exact Int.le_refl _⟩
  · by_cases c : d < 6
    · obtain ⟨k, e⟩ := ph_a hn hX hnb hn6 h c ht hs he
      exact ⟨Or.inr (Or.inl ⟨mid, w, d + 1, hm, by omega, k⟩), by rw [e]; omega⟩
    · have e6 : d = 6 := by omega
      subst e6
      obtain ⟨k, e⟩ := ph_ab hn hX hnb h ht hs he
      exact ⟨Or.inr (Or.inr ⟨w, 7, by omega, k⟩), by rw [e]; omega⟩
  · by_cases c : d < 9
    · obtain ⟨k, e⟩ := ph_b hn hX hnb h c ht hs he
      exact ⟨Or.inr (Or.inr ⟨w, d + 1, by omega, k⟩), by rw [e]; omega⟩
    · have e9 : d = 9 := by omega
      subst e9
      have k := ph_fresh hn hX hnb hn6 (mid := [w]) (O := O) h.rb h.tt h.cf (fun v hv m hm => by rw [List.mem_singleton.mp hm]; exact h.ord v hv) (by omega) hs (by have := h.om; omega) he
      exact ⟨Or.inr (Or.inl ⟨[w], _, 0, Nat.le_refl 1, by omega, k⟩), by rw [k.own]; exact Int.le_refl _⟩
end PHASES
