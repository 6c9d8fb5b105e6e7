/-! WHAT STAYS as letters arrive -/
section DEL
variable {nb : Nat → Nat → Bool} {n : Nat}
theorem mdl_cases (M : MP) (out : List LT) (s r : Nat) (p : PG) :
    (mdl nb n (M, out) (s, r, p) = (M, out) ∧ (nb s r = false ∨ og_ p = r ∨ (nb s r = true ∧ og_ p ≠ r ∧ sr_ (M r (og_ p)) = sr_ p))) ∨
    (nb s r = true ∧ og_ p ≠ r ∧ sr_ (M r (og_ p)) < sr_ p ∧ mdl nb n (M, out) (s, r, p) = (mset M r (og_ p) p, out ++ msl nb n r p s)) ∨
    (nb s r = true ∧ og_ p ≠ r ∧ sr_ p < sr_ (M r (og_ p)) ∧ mdl nb n (M, out) (s, r, p) = (M, out ++ [(r, s, M r (og_ p))])) := by
  unfold mdl
  by_cases c1 : nb s r = false
  · rw [if_pos c1]; exact Or.inl ⟨rfl, Or.inl c1⟩
  rw [if_neg c1]
  have c1 : nb s r = true := by cases h : nb s r with
    | true => rfl
    | false => exact absurd h c1
  by_cases c2 : og_ p = r
  · rw [if_pos c2]; exact Or.inl ⟨rfl, Or.inr (Or.inl c2)⟩
  rw [if_neg c2]
  by_cases c3 : (M r (og_ p)).2.1 < p.2.1
  · rw [if_pos c3]; exact Or.inr (Or.inl ⟨c1, c2, Int32.lt_iff_toInt_lt.mp c3, rfl⟩)
  rw [if_neg c3]
  by_cases c4 : p.2.1 < (M r (og_ p)).2.1
  · rw [if_pos c4]; exact Or.inr (Or.inr ⟨c1, c2, Int32.lt_iff_toInt_lt.mp c4, rfl⟩)
  rw [if_neg c4]
  refine Or.inl ⟨rfl, Or.inr (Or.inr ⟨c1, c2, ?_⟩)⟩
  have h1 := Int.not_lt.mp (fun z => c3 (Int32.lt_iff_toInt_lt.mpr z))
  have h2 := Int.not_lt.mp (fun z => c4 (Int32.lt_iff_toInt_lt.mpr z))
  exact Int.le_antisymm h2 h1
theorem mdl_ind {I : MP → List LT → List LT → Prop} (step : ∀ (M : MP) (out : List LT) (l : LT) (ls : List LT), I M out (l :: ls) → I (mdl nb n (M, out) l).1 (mdl nb n (M, out) l).2 ls) :
    ∀ (ls : List LT) (M : MP) (out : List LT), I M out ls → I (ls.foldl (mdl nb n) (M, out)).1 (ls.foldl (mdl nb n) (M, out)).2 []
  | [], _, _, h => h
  | l :: ls, M, out, h => by
    rw [List.foldl_cons]
    exact mdl_ind step ls _ _ (step M out l ls h)
theorem mem_msl {s ex : Nat} {p : PG} {l : LT} (h : l ∈ msl nb n s p ex) : l.1 = s ∧ l.2.2 = p ∧ l.2.1 < n ∧ l.2.1 ≠ ex ∧ nb s l.2.1 = true := by
  unfold msl at h
  obtain ⟨o, ho, rfl⟩ := List.mem_map.mp h
  obtain ⟨h1, h2⟩ := List.mem_filter.mp ho
  rw [Bool.and_eq_true] at h2
  exact ⟨rfl, rfl, List.mem_range.mp h1, of_decide_eq_true h2.1, h2.2⟩
theorem msl_mem {s ex o : Nat} {p : PG} (h1 : o < n) (h2 : o ≠ ex) (h3 : nb s o = true) : (s, o, p) ∈ msl nb n s p ex := by
  unfold msl
  exact List.mem_map.mpr ⟨o, List.mem_filter.mpr ⟨List.mem_range.mpr h1, by rw [Bool.and_eq_true]; exact ⟨decide_eq_true h2, h3⟩⟩, rfl⟩
/-- pages only move, along the canals -/
theorem mdl_pages {P : Nat → PG → Prop} (hP : ∀ a b p, nb a b = true → P a p → P b p) (hs : ∀ a b, nb a b = true → nb b a = true) (ls : List LT) (M : MP) (out : List LT) (h1 : ∀ b o, P b (M b o)) (h2 : ∀ l ∈ ls, nb l.1 l.2.1 = true → P l.2.1 l.2.2) (h3 : ∀ l ∈ out, P l.1 l.2.2) :
    (∀ b o, P b ((ls.foldl (mdl nb n) (M, out)).1 b o)) ∧ ∀ l ∈ (ls.foldl (mdl nb n) (M, out)).2, P l.1 l.2.2 := by
  have k := mdl_ind (nb := nb) (n := n) (I := fun M out ls => (∀ b o, P b (M b o)) ∧ (∀ l ∈ ls, nb l.1 l.2.1 = true → P l.2.1 l.2.2) ∧ ∀ l ∈ out, P l.1 l.2.2) (fun M out l ls h => by
    obtain ⟨s, r, p⟩ := l
    obtain ⟨g1, g2, g3⟩ := h
    have g2' : ∀ l ∈ ls, nb l.1 l.2.1 = true → P l.2.1 l.2.2 := fun l hl => g2 l (List.mem_cons_of_mem _ hl)
    have gp : nb s r = true → P r p := g2 (s, r, p) List.mem_cons_self
    rcases mdl_cases (nb := nb) (n := n) M out s r p with ⟨e, -⟩ | ⟨c1, c2, c3, e⟩ | ⟨c1, c2, c3, e⟩
    · rw [e]; exact ⟨g1, g2', g3⟩
    · rw [e]
      refine ⟨fun b o => ?_, g2', fun l hl => ?_⟩
      · show P b (mset M r (og_ p) p b o)
        unfold mset
        split
        · rename_i h; rw [h.1]; exact gp c1
        · exact g1 b o
      · rcases List.mem_append.mp hl with h | h
        · exact g3 l h
        · obtain ⟨m1, m2, -, -, -⟩ := mem_msl h
          rw [m1, m2]; exact gp c1
    · rw [e]
      refine ⟨g1, g2', fun l hl => ?_⟩
      rcases List.mem_append.mp hl with h | h
      · exact g3 l h
      · have h := List.mem_singleton.mp h
        subst h
        exact g1 r (og_ p)) ls M out ⟨h1, h2, h3⟩
  exact ⟨k.1, k.2.2⟩
/-- letters go between neighbours -/
theorem mdl_nb (hs : ∀ a b, nb a b = true → nb b a = true) (ls : List LT) (M : MP) (out : List LT) (h : ∀ l ∈ out, nb l.1 l.2.1 = true) : ∀ l ∈ (ls.foldl (mdl nb n) (M, out)).2, nb l.1 l.2.1 = true :=
  mdl_ind (nb := nb) (n := n) (I := fun _ out _ => ∀ l ∈ out, nb l.1 l.2.1 = true) (fun M out l ls h => by
    obtain ⟨s, r, p⟩ := l
    rcases mdl_cases (nb := nb) (n := n) M out s r p with ⟨e, -⟩ | ⟨c1, c2, c3, e⟩ | ⟨c1, c2, c3, e⟩
    · rw [e]; exact h
    · rw [e]
      intro l hl
      rcases List.mem_append.mp hl with g | g
      · exact h l g
      · obtain ⟨m1, -, -, -, m5⟩ := mem_msl g
        rw [m1]; exact m5
    · rw [e]
      intro l hl
      rcases List.mem_append.mp hl with g | g
      · exact h l g
      · have g := List.mem_singleton.mp g
        subst g
        exact hs s r c1) ls M out h
/-- X's newest page, of serial w, as letters arrive -/
theorem mdl_w {X : Nat} {w : Int} (hnb : NB_ nb) (hn6 : ∀ a b, nb a b = true → b < n) (hw : 0 < w) (ls : List LT) (M0 : MP) (out0 : List LT) (hO : WO_ M0) (hp : ∀ l ∈ ls, 0 < sr_ l.2.2)
    (h1 : ∀ b, sr_ (M0 b X) ≤ w) (h2 : ∀ l ∈ ls, og_ l.2.2 = X → sr_ l.2.2 ≤ w) (h3 : ∀ l ∈ ls, og_ l.2.2 = X → sr_ l.2.2 = w → sr_ (M0 l.1 X) = w) (h4 : ∀ l ∈ out0, og_ l.2.2 = X → sr_ l.2.2 = w → sr_ (M0 l.1 X) = w)
    (hJ : ∀ b c, sr_ (M0 b X) = w → nb b c = true → c ≠ X → sr_ (M0 c X) = w ∨ ∃ l, (l ∈ ls ∨ l ∈ out0) ∧ l.1 = b ∧ l.2.1 = c ∧ og_ l.2.2 = X ∧ sr_ l.2.2 = w) :
    ∀ M out, ls.foldl (mdl nb n) (M0, out0) = (M, out) → (∀ b, sr_ (M b X) ≤ w) ∧ (∀ b, sr_ (M0 b X) = w → sr_ (M b X) = w) ∧ M X X = M0 X X ∧ (∀ l ∈ out, og_ l.2.2 = X → sr_ l.2.2 = w → sr_ (M l.1 X) = w) ∧
      (∀ b c, sr_ (M b X) = w → nb b c = true → c ≠ X → sr_ (M c X) = w ∨ ∃ l, l ∈ out ∧ l.1 = b ∧ l.2.1 = c ∧ og_ l.2.2 = X ∧ sr_ l.2.2 = w) ∧
      (∀ l ∈ ls, og_ l.2.2 = X → sr_ l.2.2 = w → nb l.1 l.2.1 = true → l.2.1 ≠ X → sr_ (M l.2.1 X) = w) := by
  intro M out hM
  have k := mdl_ind (nb := nb) (n := n) (I := fun M out rs => WO_ M ∧ (∀ l ∈ rs, l ∈ ls) ∧ (∀ b, sr_ (M b X) ≤ w) ∧ (∀ b, sr_ (M0 b X) = w → sr_ (M b X) = w) ∧ M X X = M0 X X ∧ (∀ l ∈ out, og_ l.2.2 = X → sr_ l.2.2 = w → sr_ (M l.1 X) = w) ∧
      (∀ b c, sr_ (M b X) = w → nb b c = true → c ≠ X → sr_ (M c X) = w ∨ ∃ l, (l ∈ rs ∨ l ∈ out) ∧ l.1 = b ∧ l.2.1 = c ∧ og_ l.2.2 = X ∧ sr_ l.2.2 = w) ∧
      (∀ l ∈ ls, l ∈ rs ∨ (og_ l.2.2 = X → sr_ l.2.2 = w → nb l.1 l.2.1 = true → l.2.1 ≠ X → sr_ (M l.2.1 X) = w))) (fun M out l rs h => by
    obtain ⟨s, r, p⟩ := l
    obtain ⟨g0, g1, g2, g3, g4, g5, g6, g7⟩ := h
    have hl : (s, r, p) ∈ ls := g1 _ List.mem_cons_self
    have g1' : ∀ l ∈ rs, l ∈ ls := fun l hl => g1 l (List.mem_cons_of_mem _ hl)
    have hpp : 0 < sr_ p := hp _ hl
    rcases mdl_cases (nb := nb) (n := n) M out s r p with ⟨e, hc⟩ | ⟨c1, c2, c3, e⟩ | ⟨c1, c2, c3, e⟩
    · rw [e]
      dsimp only
      -- nothing happens: if it was X's newest, the receiver has it
      have hgot : og_ p = X → sr_ p = w → nb s r = true → r ≠ X → sr_ (M r X) = w := fun a1 a2 a3 a4 => by
        rcases hc with z | z | ⟨-, z2, z3⟩
        · rw [z] at a3; cases a3
        · exact absurd (z.symm.trans a1) a4
        · rw [← a1, z3]; exact a2
      refine ⟨g0, g1', g2, g3, g4, g5, fun b c b1 b2 b3 => ?_, fun l hl => ?_⟩
      · rcases g6 b c b1 b2 b3 with z | ⟨l, z, z1, z2, z3, z4⟩
        · exact Or.inl z
        · rcases z with z | z
          · rcases List.mem_cons.mp z with y | y
            · subst y
              have z1 : s = b := z1
              have z2 : r = c := z2
              subst z1; subst z2
              exact Or.inl (hgot z3 z4 b2 b3)
            · exact Or.inr ⟨l, Or.inl y, z1, z2, z3, z4⟩
          · exact Or.inr ⟨l, Or.inr z, z1, z2, z3, z4⟩
      · rcases g7 l hl with z | z
        · rcases List.mem_cons.mp z with y | y
          · subst y; exact Or.inr hgot
          · exact Or.inl y
        · exact Or.inr z
    · rw [e]
      dsimp only
      -- it is taken
      have hsr := hnb s r c1
      have hO' : WO_ (mset M r (og_ p) p) := fun b o => by
        unfold mset
        by_cases h : b = r ∧ o = og_ p
        · rw [if_pos h]; exact Or.inr h.2.symm
        · rw [if_neg h]; exact g0 b o
      have hX : og_ p ≠ X → ∀ b, mset M r (og_ p) p b X = M b X := fun z b => mset_ne (fun y => z y.symm)
      have hb : ∀ b, b ≠ r → mset M r (og_ p) p b X = M b X := fun b z => if_neg (fun y => z y.1)
      have hr : og_ p = X → mset M r (og_ p) p r X = p := fun z => if_pos ⟨rfl, z.symm⟩
      -- X's column, at any b
      have col : ∀ b, mset M r (og_ p) p b X = M b X ∨ (b = r ∧ og_ p = X ∧ mset M r (og_ p) p b X = p) := fun b => by
        by_cases z : og_ p = X
        · by_cases y : b = r
          · subst y; exact Or.inr ⟨rfl, z, hr z⟩
          · exact Or.inl (hb b y)
        · exact Or.inl (hX z b)
      have hle : og_ p = X → sr_ p ≤ w := fun z => h2 _ hl z
      have keep : ∀ b, sr_ (M b X) = w → sr_ (mset M r (og_ p) p b X) = w := fun b z => by
        rcases col b with y | ⟨y1, y2, y3⟩
        · rw [y]; exact z
        · subst y1
          have h9 := hle y2
          rw [y2, z] at c3
          omega
      have hgot : og_ p = X → sr_ p = w → sr_ (mset M r (og_ p) p r X) = w := fun a1 a2 => by rw [hr a1]; exact a2
      refine ⟨hO', g1', fun b => ?_, fun b z => keep b (g3 b z), ?_, fun l hl a1 a2 => ?_, fun b c b1 b2 b3 => ?_, fun l hl => ?_⟩
      · rcases col b with y | ⟨y1, y2, y3⟩
        · rw [y]; exact g2 b
        · rw [y3]; exact hle y2
      · rcases col X with y | ⟨y1, y2, y3⟩
        · rw [y]; exact g4
        · exact absurd (y2.trans y1) c2
      · rcases List.mem_append.mp hl with y | y
        · exact keep _ (g5 l y a1 a2)
        · obtain ⟨m1, m2, -, -, -⟩ := mem_msl y
          rw [m1]
          rw [m2] at a1 a2
          exact hgot a1 a2
      · by_cases z : sr_ (M b X) = w
        · rcases g6 b c z b2 b3 with y | ⟨l, y, y1, y2, y3, y4⟩
          · exact Or.inl (keep c y)
          · rcases y with y | y
            · rcases List.mem_cons.mp y with x | x
              · subst x
                have y2 : r = c := y2
                subst y2
                exact Or.inl (hgot y3 y4)
              · exact Or.inr ⟨l, Or.inl x, y1, y2, y3, y4⟩
            · exact Or.inr ⟨l, Or.inr (List.mem_append_left _ y), y1, y2, y3, y4⟩
        · -- b has it since now
          rcases col b with y | ⟨y1, y2, y3⟩
          · rw [y] at b1; exact absurd b1 z
          · subst y1
            rw [y3] at b1
            by_cases x : c = s
            · subst x
              exact Or.inl (keep c (g3 c (h3 _ hl y2 b1)))
            · exact Or.inr ⟨(b, c, p), Or.inr (List.mem_append_right _ (msl_mem (hn6 b c b2) x b2)), rfl, rfl, y2, b1⟩
      · rcases g7 l hl with z | z
        · rcases List.mem_cons.mp z with y | y
          · subst y; exact Or.inr (fun a1 a2 _ _ => hgot a1 a2)
          · exact Or.inl y
        · exact Or.inr (fun a1 a2 a3 a4 => keep _ (z a1 a2 a3 a4))
    · rw [e]
      dsimp only
      -- it is answered
      have hO2 : og_ (M r (og_ p)) = og_ p := by
        rcases g0 r (og_ p) with z | z
        · unfold sr_ at c3; unfold sr_ at hpp; omega
        · exact z
      have hgot : og_ p = X → sr_ p = w → sr_ (M r X) = w := fun a1 a2 => by
        have h9 := g2 r
        rw [a1, a2] at c3
        omega
      refine ⟨g0, g1', g2, g3, g4, fun l hl a1 a2 => ?_, fun b c b1 b2 b3 => ?_, fun l hl => ?_⟩
      · rcases List.mem_append.mp hl with y | y
        · exact g5 l y a1 a2
        · have y := List.mem_singleton.mp y
          subst y
          have a1 : og_ (M r (og_ p)) = X := a1
          rw [hO2] at a1
          have a2 : sr_ (M r (og_ p)) = w := a2
          rw [a1] at a2
          exact a2
      · rcases g6 b c b1 b2 b3 with y | ⟨l, y, y1, y2, y3, y4⟩
        · exact Or.inl y
        · rcases y with y | y
          · rcases List.mem_cons.mp y with x | x
            · subst x
              have y2 : r = c := y2
              subst y2
              exact Or.inl (hgot y3 y4)
            · exact Or.inr ⟨l, Or.inl x, y1, y2, y3, y4⟩
          · exact Or.inr ⟨l, Or.inr (List.mem_append_left _ y), y1, y2, y3, y4⟩
      · rcases g7 l hl with z | z
        · rcases List.mem_cons.mp z with y | y
          · subst y; exact Or.inr (fun a1 a2 _ _ => hgot a1 a2)
          · exact Or.inl y
        · exact Or.inr z) ls M0 out0 ⟨hO, fun _ h => h, h1, fun _ h => h, rfl, h4, fun b c b1 b2 b3 => (hJ b c b1 b2 b3).imp id (fun ⟨l, y, z⟩ => ⟨l, y, z⟩), fun l hl => Or.inl hl⟩
  rw [hM] at k
  obtain ⟨-, -, k2, k3, k4, k5, k6, k7⟩ := k
  refine ⟨k2, k3, k4, k5, fun b c b1 b2 b3 => (k6 b c b1 b2 b3).imp id (fun ⟨l, y, z⟩ => ⟨l, y.resolve_left (fun h => by cases h), z⟩), fun l hl => (k7 l hl).resolve_left (fun h => by cases h)⟩
/-- where all have X's newest page, nothing older of X is sent -/
theorem mdl_new {X : Nat} {w : Int} {Cl : Nat → Prop} (hnb : NB_ nb) (hC : ∀ a b, nb a b = true → Cl a → Cl b) (ls : List LT) (M0 : MP) (out0 : List LT) (hO : WO_ M0) (hp : ∀ l ∈ ls, 0 < sr_ l.2.2)
    (h2 : ∀ l ∈ ls, og_ l.2.2 = X → sr_ l.2.2 ≤ w) (hall : ∀ b, Cl b → sr_ (M0 b X) = w) (h4 : ∀ l ∈ out0, og_ l.2.2 = X → Cl l.1 → sr_ l.2.2 = w) :
    ∀ l ∈ (ls.foldl (mdl nb n) (M0, out0)).2, og_ l.2.2 = X → Cl l.1 → sr_ l.2.2 = w := by
  have k := mdl_ind (nb := nb) (n := n) (I := fun M out rs => WO_ M ∧ (∀ l ∈ rs, l ∈ ls) ∧ (∀ b, Cl b → sr_ (M b X) = w) ∧ ∀ l ∈ out, og_ l.2.2 = X → Cl l.1 → sr_ l.2.2 = w) (fun M out l rs h => by
    obtain ⟨s, r, p⟩ := l
    obtain ⟨g0, g1, g2, g3⟩ := h
    have hl : (s, r, p) ∈ ls := g1 _ List.mem_cons_self
    have g1' : ∀ l ∈ rs, l ∈ ls := fun l hl => g1 l (List.mem_cons_of_mem _ hl)
    have hpp : 0 < sr_ p := hp _ hl
    rcases mdl_cases (nb := nb) (n := n) M out s r p with ⟨e, -⟩ | ⟨c1, c2, c3, e⟩ | ⟨c1, c2, c3, e⟩
    · rw [e]; exact ⟨g0, g1', g2, g3⟩
    · rw [e]
      dsimp only
      have hno : og_ p = X → ¬ Cl r := fun z y => by
        have h9 := h2 _ hl z
        rw [z, g2 r y] at c3
        have h9 : sr_ p ≤ w := h9
        omega
      refine ⟨fun b o => ?_, g1', fun b hb => ?_, fun l hl a1 a2 => ?_⟩
      · unfold mset
        by_cases h : b = r ∧ o = og_ p
        · rw [if_pos h]; exact Or.inr h.2.symm
        · rw [if_neg h]; exact g0 b o
      · unfold mset
        by_cases h : b = r ∧ X = og_ p
        · exact absurd (h.1 ▸ hb) (hno h.2.symm)
        · rw [if_neg h]; exact g2 b hb
      · rcases List.mem_append.mp hl with y | y
        · exact g3 l y a1 a2
        · obtain ⟨m1, m2, -, -, -⟩ := mem_msl y
          rw [m2] at a1
          rw [m1] at a2
          exact absurd a2 (hno a1)
    · rw [e]
      dsimp only
      refine ⟨g0, g1', g2, fun l hl a1 a2 => ?_⟩
      rcases List.mem_append.mp hl with y | y
      · exact g3 l y a1 a2
      · have y := List.mem_singleton.mp y
        subst y
        have hO2 : og_ (M r (og_ p)) = og_ p := by
          rcases g0 r (og_ p) with z | z
          · unfold sr_ at c3; unfold sr_ at hpp; omega
          · exact z
        have a1 : og_ (M r (og_ p)) = X := a1
        rw [hO2] at a1
        show sr_ (M r (og_ p)) = w
        rw [a1]
        exact g2 r a2) ls M0 out0 ⟨hO, fun _ h => h, hall, h4⟩
  exact k.2.2.2
end DEL
