/-! LETTERS, COUNTED: a tick of the survey over pages alone, and how many letters it sends -/
abbrev LT : Type := Nat × Nat × PG
def sr_ (p : PG) : Int := p.2.1.toInt
def og_ (p : PG) : Nat := p.1.toInt.toNat
/-- the rank of a serial among those of a list -/
def rk_ (L : List Int) (c : Int) : Nat := L.countP (fun v => decide (v ≤ c))
theorem rk_mono {L : List Int} {u v : Int} (h : u ≤ v) : rk_ L u ≤ rk_ L v :=
  List.countP_mono_left (fun x _ hx => by
    have hx : x ≤ u := of_decide_eq_true hx
    exact decide_eq_true (by omega))
theorem rk_lt : ∀ {L : List Int} {u v : Int}, v ∈ L → u < v → rk_ L u < rk_ L v
  | [], _, _, h, _ => nomatch h
  | a :: L, u, v, h, huv => by
    unfold rk_
    rw [List.countP_cons, List.countP_cons]
    have hm : rk_ L u ≤ rk_ L v := rk_mono (by omega)
    unfold rk_ at hm
    rcases List.mem_cons.mp h with e | e
    · subst e
      rw [if_neg (show ¬ decide (v ≤ u) = true from fun z => absurd (of_decide_eq_true z) (by omega)), if_pos (show decide (v ≤ v) = true from decide_eq_true (Int.le_refl v))]
      omega
    · have ih := rk_lt e huv
      unfold rk_ at ih
      by_cases h1 : a ≤ u
      · rw [if_pos (decide_eq_true h1), if_pos (decide_eq_true (show a ≤ v by omega))]
        omega
      · rw [if_neg (show ¬ decide (a ≤ u) = true from fun z => h1 (of_decide_eq_true z))]
        omega
theorem rk_pos {L : List Int} {v : Int} (h : v ∈ L) : 0 < rk_ L v := List.countP_pos_iff.mpr ⟨v, h, decide_eq_true (Int.le_refl v)⟩
theorem rk_le (L : List Int) (v : Int) : rk_ L v ≤ L.length := List.countP_le_length
def s6_ (f : Nat → Nat) : Nat := f 0 + f 1 + f 2 + f 3 + f 4 + f 5
theorem s6_up {f g : Nat → Nat} {r d : Nat} (hr : r < 6) (ho : ∀ b, b ≠ r → g b = f b) (h : f r + d ≤ g r) : s6_ f + d ≤ s6_ g := by
  unfold s6_
  rcases (show r = 0 ∨ r = 1 ∨ r = 2 ∨ r = 3 ∨ r = 4 ∨ r = 5 by omega) with e | e | e | e | e | e <;> subst e
  · have h1 := ho 1 (by decide); have h2 := ho 2 (by decide); have h3 := ho 3 (by decide); have h4 := ho 4 (by decide); have h5 := ho 5 (by decide); omega
  · have h1 := ho 0 (by decide); have h2 := ho 2 (by decide); have h3 := ho 3 (by decide); have h4 := ho 4 (by decide); have h5 := ho 5 (by decide); omega
  · have h1 := ho 0 (by decide); have h2 := ho 1 (by decide); have h3 := ho 3 (by decide); have h4 := ho 4 (by decide); have h5 := ho 5 (by decide); omega
  · have h1 := ho 0 (by decide); have h2 := ho 1 (by decide); have h3 := ho 2 (by decide); have h4 := ho 4 (by decide); have h5 := ho 5 (by decide); omega
  · have h1 := ho 0 (by decide); have h2 := ho 1 (by decide); have h3 := ho 2 (by decide); have h4 := ho 3 (by decide); have h5 := ho 5 (by decide); omega
  · have h1 := ho 0 (by decide); have h2 := ho 1 (by decide); have h3 := ho 2 (by decide); have h4 := ho 3 (by decide); have h5 := ho 4 (by decide); omega
/-! the model -/
abbrev MP : Type := Nat → Nat → PG
def mset (M : MP) (a o : Nat) (p : PG) : MP := fun a' o' => if a' = a ∧ o' = o then p else M a' o'
def msl (nb : Nat → Nat → Bool) (n s : Nat) (p : PG) (ex : Nat) : List LT := ((List.range n).filter (fun o => decide (o ≠ ex) && nb s o)).map (fun o => (s, o, p))
def mdl (nb : Nat → Nat → Bool) (n : Nat) (st : MP × List LT) (l : LT) : MP × List LT :=
  if nb l.1 l.2.1 = false then st
  else if og_ l.2.2 = l.2.1 then st
  else if (st.1 l.2.1 (og_ l.2.2)).2.1 < l.2.2.2.1 then (mset st.1 l.2.1 (og_ l.2.2) l.2.2, st.2 ++ msl nb n l.2.1 l.2.2 l.1)
  else if l.2.2.2.1 < (st.1 l.2.1 (og_ l.2.2)).2.1 then (st.1, st.2 ++ [(l.2.1, l.1, st.1 l.2.1 (og_ l.2.2))])
  else st
/-- the neighbours: some six, no one its own, both ways -/
def NB_ (nb : Nat → Nat → Bool) : Prop := ∀ a b : Nat, nb a b = true → a < 6 ∧ b < 6 ∧ a ≠ b ∧ nb b a = true
theorem msl_len {nb : Nat → Nat → Bool} {n s ex : Nat} {p : PG} (hn : n ≤ 6) (hnb : NB_ nb) (hx : nb ex s = true) : (msl nb n s p ex).length ≤ 4 := by
  have key : ∀ i j : Fin 6, i ≠ j → (List.range 6).countP (fun o => decide (o ≠ j.val) && decide (o ≠ i.val)) ≤ 4 := by decide
  obtain ⟨h1, h2, h3, h4⟩ := hnb ex s hx
  unfold msl
  rw [List.length_map, ← List.countP_eq_length_filter]
  refine Nat.le_trans ?_ (key ⟨s, h2⟩ ⟨ex, h1⟩ (fun e => h3 (congrArg Fin.val e).symm))
  refine Nat.le_trans (List.countP_mono_left (p := fun o => decide (o ≠ ex) && nb s o) (q := fun o => decide (o ≠ ex) && decide (o ≠ s)) (fun x _ hx9 => ?_)) ?_
  · rw [Bool.and_eq_true] at hx9 ⊢
    exact ⟨hx9.1, decide_eq_true (fun e => by
      have h9 := hnb s x hx9.2
      exact h9.2.2.1 e.symm)⟩
  · exact (List.range_sublist.mpr hn).countP_le
theorem msl_count {nb : Nat → Nat → Bool} {n s ex : Nat} {p : PG} (q : PG → Bool) : (msl nb n s p ex).countP (fun l => q l.2.2) = if q p = true then (msl nb n s p ex).length else 0 := by
  unfold msl
  generalize (List.range n).filter (fun o => decide (o ≠ ex) && nb s o) = L
  induction L with
  | nil => simp
  | cons a L ih =>
    rw [List.map_cons, List.countP_cons, ih, List.length_cons]
    by_cases h : q p = true
    · rw [if_pos h, if_pos h, if_pos h]
    · rw [if_neg h, if_neg h, if_neg h]
section COUNT
variable {nb : Nat → Nat → Bool} {n X : Nat} {L : List Int}
def qc_ (X : Nat) (L : List Int) (ρ : Nat) (p : PG) : Bool := decide (og_ p = X ∧ rk_ L (sr_ p) ≤ ρ)
def qd_ (X : Nat) (L : List Int) (ρ : Nat) (p : PG) : Bool := decide (og_ p = X ∧ rk_ L (sr_ p) < ρ)
def phi_ (X : Nat) (L : List Int) (ρ : Nat) (M : MP) : Nat := s6_ (fun b => if b = X then 0 else min ρ (rk_ L (sr_ (M b X))))
/-- what the maps hold of X: pages of X alone, with serials of the list -/
def WX_ (X : Nat) (L : List Int) (M : MP) : Prop := ∀ b : Nat, (M b X).2.1.toInt = 0 ∨ (og_ (M b X) = X ∧ sr_ (M b X) ∈ L)
def WO_ (M : MP) : Prop := ∀ b o : Nat, (M b o).2.1.toInt = 0 ∨ og_ (M b o) = o
def LX_ (X : Nat) (L : List Int) (ls : List LT) : Prop := ∀ l ∈ ls, og_ l.2.2 = X → sr_ l.2.2 ∈ L
theorem mset_ne {M : MP} {a o a' o' : Nat} {p : PG} (h : o' ≠ o) : mset M a o p a' o' = M a' o' := if_neg (fun z => h z.2)
/-- one letter -/
theorem mdl_step (hn : n ≤ 6) (hnb : NB_ nb) (hL : ∀ v ∈ L, 0 < v) {M : MP} {out : List LT} {l : LT} (hM : WX_ X L M) (hO : WO_ M) (hl : og_ l.2.2 = X → sr_ l.2.2 ∈ L) (hl0 : 0 < sr_ l.2.2) (ρ : Nat) :
    (mdl nb n (M, out) l).2.countP (fun l => qc_ X L ρ l.2.2) + 4 * phi_ X L ρ M ≤ out.countP (fun l => qc_ X L ρ l.2.2) + (if qd_ X L ρ l.2.2 = true then 1 else 0) + 4 * phi_ X L ρ (mdl nb n (M, out) l).1
    ∧ WX_ X L (mdl nb n (M, out) l).1 ∧ WO_ (mdl nb n (M, out) l).1 := by
  obtain ⟨s, r, p⟩ := l
  have hl : og_ p = X → sr_ p ∈ L := hl
  have hl0 : 0 < sr_ p := hl0
  have same : out.countP (fun l => qc_ X L ρ l.2.2) + 4 * phi_ X L ρ M ≤ out.countP (fun l => qc_ X L ρ l.2.2) + (if qd_ X L ρ p = true then 1 else 0) + 4 * phi_ X L ρ M := by omega
  unfold mdl
  by_cases c1 : nb s r = false
  · rw [if_pos c1]; exact ⟨same, hM, hO⟩
  rw [if_neg c1]
  have c1 : nb s r = true := by cases h : nb s r with
    | true => rfl
    | false => exact absurd h c1
  by_cases c2 : og_ p = r
  · rw [if_pos c2]; exact ⟨same, hM, hO⟩
  rw [if_neg c2]
  have hsr := hnb s r c1
  by_cases c3 : (M r (og_ p)).2.1 < p.2.1
  · rw [if_pos c3]
    have y3 : (M r (og_ p)).2.1.toInt < p.2.1.toInt := Int32.lt_iff_toInt_lt.mp c3
    have hlen := msl_len (p := p) hn hnb c1
    show (out ++ msl nb n r p s).countP (fun l => qc_ X L ρ l.2.2) + 4 * phi_ X L ρ M ≤ out.countP (fun l => qc_ X L ρ l.2.2) + (if qd_ X L ρ p = true then 1 else 0) + 4 * phi_ X L ρ (mset M r (og_ p) p) ∧ WX_ X L (mset M r (og_ p) p) ∧ WO_ (mset M r (og_ p) p)
    rw [List.countP_append, msl_count (fun p => qc_ X L ρ p)]
    have hO' : WO_ (mset M r (og_ p) p) := fun b o => by
      unfold mset
      by_cases h : b = r ∧ o = og_ p
      · rw [if_pos h]; exact Or.inr h.2.symm
      · rw [if_neg h]; exact hO b o
    by_cases cX : og_ p = X
    · subst cX
      have hv := hl rfl
      have hphi : phi_ (og_ p) L ρ M + (if rk_ L (sr_ p) ≤ ρ then 1 else 0) ≤ phi_ (og_ p) L ρ (mset M r (og_ p) p) := by
        refine s6_up (r := r) hsr.2.1 (fun b hb => ?_) ?_
        · show (if b = og_ p then 0 else min ρ (rk_ L (sr_ (mset M r (og_ p) p b (og_ p))))) = _
          rw [show mset M r (og_ p) p b (og_ p) = M b (og_ p) from if_neg (fun z => hb z.1)]
        · show (if r = og_ p then 0 else min ρ (rk_ L (sr_ (M r (og_ p))))) + _ ≤ (if r = og_ p then 0 else min ρ (rk_ L (sr_ (mset M r (og_ p) p r (og_ p)))))
          have hne : ¬ r = og_ p := fun z => c2 z.symm
          rw [if_neg hne, if_neg hne, show mset M r (og_ p) p r (og_ p) = p from if_pos ⟨rfl, rfl⟩]
          have h9 : rk_ L (sr_ (M r (og_ p))) < rk_ L (sr_ p) := rk_lt hv y3
          by_cases h8 : rk_ L (sr_ p) ≤ ρ
          · rw [if_pos h8]; omega
          · rw [if_neg h8]; omega
      refine ⟨?_, fun b => ?_, hO'⟩
      · by_cases h8 : rk_ L (sr_ p) ≤ ρ
        · rw [if_pos h8] at hphi
          split <;> split <;> omega
        · rw [if_neg h8] at hphi
          rw [if_neg (show ¬ qc_ (og_ p) L ρ p = true from fun z => h8 (of_decide_eq_true z).2)]
          split <;> omega
      · unfold mset
        by_cases h : b = r ∧ og_ p = og_ p
        · rw [if_pos h]; exact Or.inr ⟨rfl, hv⟩
        · rw [if_neg h]; exact hM b
    · rw [if_neg (show ¬ qc_ X L ρ p = true from fun z => cX (of_decide_eq_true z).1)]
      have e : ∀ b, mset M r (og_ p) p b X = M b X := fun b => mset_ne (fun z => cX z.symm)
      have hphi : phi_ X L ρ (mset M r (og_ p) p) = phi_ X L ρ M := by
        unfold phi_
        simp only [e]
      refine ⟨by rw [hphi]; split <;> omega, fun b => by rw [e b]; exact hM b, hO'⟩
  · rw [if_neg c3]
    by_cases c4 : p.2.1 < (M r (og_ p)).2.1
    · rw [if_pos c4]
      have y4 : p.2.1.toInt < (M r (og_ p)).2.1.toInt := Int32.lt_iff_toInt_lt.mp c4
      refine ⟨?_, hM, hO⟩
      show (out ++ [(r, s, M r (og_ p))]).countP (fun l => qc_ X L ρ l.2.2) + 4 * phi_ X L ρ M ≤ out.countP (fun l => qc_ X L ρ l.2.2) + (if qd_ X L ρ p = true then 1 else 0) + 4 * phi_ X L ρ M
      rw [List.countP_append, List.countP_singleton]
      have ho : og_ (M r (og_ p)) = og_ p := by
        rcases hO r (og_ p) with h | h
        · have h9 : 0 < p.2.1.toInt := hl0
          omega
        · exact h
      by_cases h8 : qc_ X L ρ (M r (og_ p)) = true
      · have h7 := of_decide_eq_true h8
        have eX : og_ p = X := ho ▸ h7.1
        have hv : sr_ (M r (og_ p)) ∈ L := by
          rcases hM r with h | h
          · rw [← eX] at h
            have h9 : 0 < p.2.1.toInt := hl0
            omega
          · rw [← eX] at h; exact h.2
        have h6 : rk_ L (sr_ p) < rk_ L (sr_ (M r (og_ p))) := rk_lt hv y4
        rw [if_pos h8, if_pos (show qd_ X L ρ p = true from decide_eq_true ⟨eX, by omega⟩)]
        omega
      · rw [if_neg h8]
        split <;> omega
    · rw [if_neg c4]; exact ⟨same, hM, hO⟩
/-- all letters of a tick -/
theorem mdl_all (hn : n ≤ 6) (hnb : NB_ nb) (hL : ∀ v ∈ L, 0 < v) (ρ : Nat) : ∀ (ls : List LT) (M : MP) (out : List LT), WX_ X L M → WO_ M → LX_ X L ls → (∀ l ∈ ls, 0 < sr_ l.2.2) →
    (ls.foldl (mdl nb n) (M, out)).2.countP (fun l => qc_ X L ρ l.2.2) + 4 * phi_ X L ρ M ≤ out.countP (fun l => qc_ X L ρ l.2.2) + ls.countP (fun l => qd_ X L ρ l.2.2) + 4 * phi_ X L ρ (ls.foldl (mdl nb n) (M, out)).1
    ∧ WX_ X L (ls.foldl (mdl nb n) (M, out)).1 ∧ WO_ (ls.foldl (mdl nb n) (M, out)).1
  | [], M, out, hM, hO, _, _ => ⟨by simp, hM, hO⟩
  | l :: ls, M, out, hM, hO, h, h0 => by
    have k := mdl_step (out := out) hn hnb hL hM hO (h l List.mem_cons_self) (h0 l List.mem_cons_self) ρ
    rw [List.foldl_cons]
    generalize hg : mdl nb n (M, out) l = st at k ⊢
    obtain ⟨M', out'⟩ := st
    have ih := mdl_all hn hnb hL ρ ls M' out' k.2.1 k.2.2 (fun z hz => h z (List.mem_cons_of_mem _ hz)) (fun z hz => h0 z (List.mem_cons_of_mem _ hz))
    have k1 : out'.countP (fun l => qc_ X L ρ l.2.2) + 4 * phi_ X L ρ M ≤ out.countP (fun l => qc_ X L ρ l.2.2) + (if qd_ X L ρ l.2.2 = true then 1 else 0) + 4 * phi_ X L ρ M' := k.1
    refine ⟨?_, ih.2⟩
    rw [List.countP_cons]
    have i1 := ih.1
    omega
theorem phi_le (ρ : Nat) (M : MP) (hX : X < 6) : phi_ X L ρ M ≤ 5 * ρ := by
  unfold phi_ s6_
  have h : ∀ b : Nat, (if b = X then 0 else min ρ (rk_ L (sr_ (M b X)))) ≤ ρ := fun b => by split <;> omega
  have h0 := h 0; have h1 := h 1; have h2 := h 2; have h3 := h 3; have h4 := h 4; have h5 := h 5
  rcases (show X = 0 ∨ X = 1 ∨ X = 2 ∨ X = 3 ∨ X = 4 ∨ X = 5 by omega) with e | e | e | e | e | e <;> subst e <;> simp only [if_true] at * <;> omega
/-- the tick's count: what it sends with ranks up to ρ is at most what came with lower ranks, and 20 ρ -/
theorem mdl_count (hn : n ≤ 6) (hX : X < 6) (hnb : NB_ nb) (hL : ∀ v ∈ L, 0 < v) (ρ : Nat) {ls : List LT} {M : MP} {out : List LT} (hM : WX_ X L M) (hO : WO_ M) (h : LX_ X L ls) (h0 : ∀ l ∈ ls, 0 < sr_ l.2.2) :
    (ls.foldl (mdl nb n) (M, out)).2.countP (fun l => qc_ X L ρ l.2.2) ≤ out.countP (fun l => qc_ X L ρ l.2.2) + ls.countP (fun l => qd_ X L ρ l.2.2) + 20 * ρ := by
  have k := (mdl_all (n := n) hn hnb hL ρ ls M out hM hO h h0).1
  have k2 := phi_le (L := L) ρ (ls.foldl (mdl nb n) (M, out)).1 hX
  omega
end COUNT
