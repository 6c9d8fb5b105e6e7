/-! CHANGES: new pages outside of ticks, letters taken out, pages forgotten; passes of many ticks -/
section CHANGE
variable {nb : Nat → Nat → Bool} {cst : Nat → Nat → Int32} {n X : Nat}
theorem RB_.tk {L : List Int} {tk tk' : Int32} {M : MP} {lt : List LT} (h : RB_ X L tk M lt) (ht : tk.toInt ≤ tk'.toInt) : RB_ X L tk' M lt :=
  ⟨h.pos, h.wo, h.wx, h.lx, h.top, h.lp, fun b => by have := h.ag b; omega, fun l hl z => by have := h.lg l hl z; omega, h.cn⟩
theorem RB_nil {tk : Int32} {M : MP} (ht : 0 ≤ tk.toInt) (hM : ∀ b o, M b o = pg0) : RB_ X [] tk M [] ∧ TT_ X [] [] := by
  refine ⟨⟨(fun v hv => absurd hv List.not_mem_nil), (fun b o => Or.inl (hM b o)), (fun b => Or.inl (by rw [hM]; exact pg0_s)), (fun l hl => absurd hl List.not_mem_nil), (fun v hv => absurd hv List.not_mem_nil), (fun l hl => absurd hl List.not_mem_nil), (fun b => by rw [hM, pg0_m]; omega), (fun l hl => absurd hl List.not_mem_nil), (fun ρ hρ => absurd hρ (Nat.not_lt_zero _))⟩, Nat.zero_le _⟩
/-- fewer letters, pages forgotten -/
theorem RB_sub {L : List Int} {tk : Int32} {M M' : MP} {lt lt' : List LT} (h : RB_ X L tk M lt) (t : TT_ X L lt) (hl : lt'.Sublist lt) (wo : WO2_ M') (hown : M' X X = M X X) (hc : ∀ b, M' b X = M b X ∨ M' b X = pg0) :
    RB_ X L tk M' lt' ∧ TT_ X L lt' := by
  have mem : ∀ l ∈ lt', l ∈ lt := fun l z => hl.subset z
  have h0 := h.ag X
  refine ⟨⟨h.pos, wo, fun b => ?_, fun l z => h.lx l (mem l z), by rw [hown]; exact h.top, fun l z => h.lp l (mem l z), fun b => ?_, fun l z => h.lg l (mem l z), fun ρ hρ => Nat.le_trans hl.countP_le (h.cn ρ hρ)⟩, Nat.le_trans hl.countP_le t⟩
  · rcases hc b with z | z
    · rw [z]; exact h.wx b
    · rw [z]; exact Or.inl pg0_s
  · rcases hc b with z | z
    · rw [z]; exact h.ag b
    · rw [z, pg0_m]; omega
/-- a new page -/
theorem ren_RB (hn : n ≤ 6) (hnb : NB_ nb) {s : Nat} (hs : s < 6) {L : List Int} {tk : Int32} {M : MP} {lt : List LT} (h : RB_ X L tk M lt) (t : TT_ X L lt) (hs2 : sr_ (M s s) < 2000000) {M' : MP} {lt' : List LT} (he : mren nb cst n tk (M, lt) s = (M', lt')) :
    WO2_ M' ∧ (∀ z, z ≠ s → M' z z = M z z) ∧ sr_ (M' s s) = sr_ (M s s) + 1 ∧
    (s ≠ X → RB_ X L tk M' lt' ∧ TT_ X L lt') ∧ (s = X → RB_ X (L ++ [sr_ (M X X) + 1]) tk M' lt' ∧ TT_ X (L ++ [sr_ (M X X) + 1]) lt') := by
  unfold mren at he
  have h0 := h.wo.nn s s
  generalize hp : mnew nb cst n tk M s = p at he
  have pog : og_ p = s := by rw [← hp]; exact og_nI (Nat.lt_of_lt_of_le hs (by decide))
  have psr : sr_ p = sr_ (M s s) + 1 := by
    rw [← hp]
    show ((M s s).2.1 + 1).toInt = _
    have e1 : (1 : Int32).toInt = 1 := by decide +kernel
    unfold sr_ at h0 hs2 ⊢
    rw [addI (by omega) (by omega), e1]
  have pma : mA_ p = tk.toInt := by rw [← hp]; rfl
  obtain ⟨eM, el⟩ := Prod.mk.inj he
  have el : lt ++ msl nb n s p 99 = lt' := el
  have wo : WO2_ M' := fun b o => by
    rw [← eM]
    unfold mset
    by_cases c : b = s ∧ o = s
    · rw [if_pos c]; exact Or.inr ⟨by rw [c.2]; exact pog, by omega⟩
    · rw [if_neg c]; exact h.wo b o
  have own : M' s s = p := by rw [← eM]; exact if_pos ⟨rfl, rfl⟩
  have hd := h.ag X
  refine ⟨wo, fun z hz => by rw [← eM]; exact if_neg (fun y => hz y.1), by rw [own]; exact psr, fun hsX => ?_, fun hsX => ?_⟩
  · have col : ∀ b, M' b X = M b X := fun b => by rw [← eM]; exact mset_ne (fun y => hsX y.symm)
    have none : (msl nb n s p 99).countP (fun l => decide (og_ l.2.2 = X)) = 0 := List.countP_eq_zero.mpr (fun l hl z => hsX (by
      rw [← pog, ← (mem_msl hl).2.1]; exact of_decide_eq_true z))
    refine ⟨⟨h.pos, wo, fun b => by rw [col]; exact h.wx b, fun l hl z => ?_, by rw [col]; exact h.top, fun l hl => ?_, fun b => by rw [col]; exact h.ag b, fun l hl z => ?_, fun ρ hρ => ?_⟩, ?_⟩
    · rw [← el] at hl
      rcases List.mem_append.mp hl with y | y
      · exact h.lx l y z
      · rw [(mem_msl y).2.1, pog] at z; exact absurd z hsX
    · rw [← el] at hl
      rcases List.mem_append.mp hl with y | y
      · exact h.lp l y
      · rw [(mem_msl y).2.1]; omega
    · rw [← el] at hl
      rcases List.mem_append.mp hl with y | y
      · exact h.lg l y z
      · rw [(mem_msl y).2.1, pog] at z; exact absurd z hsX
    · rw [← el, List.countP_append]
      have a1 : (msl nb n s p 99).countP (fun l => qc_ X L ρ l.2.2) ≤ (msl nb n s p 99).countP (fun l => decide (og_ l.2.2 = X)) := List.countP_mono_left (fun l _ z => decide_eq_true (of_decide_eq_true z).1)
      have a2 := h.cn ρ hρ
      omega
    · unfold TT_ at t ⊢
      rw [← el, List.countP_append, none]
      exact t
  · subst hsX
    have hlt : ∀ v ∈ L, v < sr_ (M s s) + 1 := fun v hv => by have := h.top v hv; omega
    have inL : ∀ {v : Int}, v ∈ L → v ∈ L ++ [sr_ (M s s) + 1] := fun hv => List.mem_append_left _ hv
    have inw : sr_ p ∈ L ++ [sr_ (M s s) + 1] := by rw [psr]; exact List.mem_append_right _ List.mem_cons_self
    have len5 := msl_len5 (nb := nb) (n := n) (s := s) (ex := 99) (p := p) hn hnb hs
    have cs5 : ∀ q : LT → Bool, (msl nb n s p 99).countP q ≤ 5 := fun q => Nat.le_trans List.countP_le_length len5
    have colb : ∀ b, b ≠ s → M' b s = M b s := fun b hb => by rw [← eM]; exact if_neg (fun y => hb y.1)
    refine ⟨⟨fun v hv => ?_, wo, fun b => ?_, fun l hl z => ?_, fun v hv => ?_, fun l hl => ?_, fun b => ?_, fun l hl z => ?_, fun ρ hρ => ?_⟩, ?_⟩
    · rcases List.mem_append.mp hv with z | z
      · exact h.pos v z
      · rw [List.mem_singleton.mp z]; omega
    · by_cases hb : b = s
      · subst hb; rw [own]; exact Or.inr ⟨pog, inw⟩
      · rw [colb b hb]; exact (h.wx b).imp id (fun y => ⟨y.1, inL y.2⟩)
    · rw [← el] at hl
      rcases List.mem_append.mp hl with y | y
      · exact inL (h.lx l y z)
      · rw [(mem_msl y).2.1]; exact inw
    · rw [own, psr]
      rcases List.mem_append.mp hv with z | z
      · exact Int.le_of_lt (hlt v z)
      · rw [List.mem_singleton.mp z]; exact Int.le_refl _
    · rw [← el] at hl
      rcases List.mem_append.mp hl with y | y
      · exact h.lp l y
      · rw [(mem_msl y).2.1]; omega
    · by_cases hb : b = s
      · subst hb; rw [own, pma]; omega
      · rw [colb b hb]; exact h.ag b
    · rw [← el] at hl
      rcases List.mem_append.mp hl with y | y
      · exact h.lg l y z
      · rw [(mem_msl y).2.1, pma]; omega
    · rw [List.length_append, List.length_singleton] at hρ
      rw [← el, List.countP_append]
      have a0 : (msl nb n s p 99).countP (fun l => qc_ s (L ++ [sr_ (M s s) + 1]) ρ l.2.2) = 0 := List.countP_eq_zero.mpr (fun l hl z => by
        obtain ⟨z1, z2⟩ := of_decide_eq_true z
        rw [(mem_msl hl).2.1, psr, rk_top (fun v hv => by
          rcases List.mem_append.mp hv with x | x
          · exact Int.le_of_lt (hlt v x)
          · rw [List.mem_singleton.mp x]; exact Int.le_refl _), List.length_append, List.length_singleton] at z2
        omega)
      have a1 : lt.countP (fun l => qc_ s (L ++ [sr_ (M s s) + 1]) ρ l.2.2) ≤ BB ρ := by
        by_cases c : ρ < L.length
        · refine Nat.le_trans (List.countP_mono_left (fun l hl z => ?_)) (h.cn ρ c)
          obtain ⟨z1, z2⟩ := of_decide_eq_true z
          rw [rk_app (hlt _ (h.lx l hl z1))] at z2
          exact decide_eq_true ⟨z1, z2⟩
        · have e9 : ρ = L.length := by omega
          rw [e9]
          exact Nat.le_trans (List.countP_mono_left (fun l hl z => decide_eq_true (of_decide_eq_true z).1)) t
      omega
    · unfold TT_ at t ⊢
      rw [← el, List.countP_append, List.length_append, List.length_singleton, BB_step]
      have := cs5 (fun l => decide (og_ l.2.2 = s))
      omega
/-- ticks, one after another -/
def mticks (nb : Nat → Nat → Bool) (cst : Nat → Nat → Int32) (n : Nat) : Nat → Int32 → MP → List LT → Int32 × MP × List LT
  | 0, tk, M, lt => (tk, M, lt)
  | k + 1, tk, M, lt => mticks nb cst n k (tk + 1) (mtick nb cst n (tk + 1) M lt).1 (mtick nb cst n (tk + 1) M lt).2
theorem ps_ticks (hn : n ≤ 6) (hnb : NB_ nb) (hn6 : ∀ a b, nb a b = true → b < n) {O : Nat → List Int} : ∀ (k : Nat) (tk : Int32) (M : MP) (lt : List LT), 0 ≤ tk.toInt → tk.toInt + k < 1999999 →
    (∀ X, X < n → PS_ nb X (O X) tk M lt ∧ sr_ (M X X) ≤ tk.toInt) → ∀ tk' M' lt', mticks nb cst n k tk M lt = (tk', M', lt') → tk'.toInt = tk.toInt + k ∧ ∀ X, X < n → PS_ nb X (O X) tk' M' lt' ∧ sr_ (M' X X) ≤ tk'.toInt
  | 0, tk, M, lt, _, _, h, tk', M', lt', he => by
    obtain ⟨e1, e2⟩ := Prod.mk.inj he
    obtain ⟨e2, e3⟩ := Prod.mk.inj e2
    subst e1 e2 e3
    exact ⟨by omega, h⟩
  | k + 1, tk, M, lt, h0, hk, h, tk', M', lt', he => by
    have e1 : (1 : Int32).toInt = 1 := by decide +kernel
    have et : (tk + 1).toInt = tk.toInt + 1 := by rw [addI (by omega) (by omega), e1]
    generalize hr : mtick nb cst n (tk + 1) M lt = r at he
    obtain ⟨M1, lt1⟩ := r
    have he : mticks nb cst n k (tk + 1) M1 lt1 = (tk', M', lt') := by rw [← he]; show _ = mticks nb cst n k (tk + 1) (mtick nb cst n (tk + 1) M lt).1 (mtick nb cst n (tk + 1) M lt).2; rw [hr]
    obtain ⟨a1, a2⟩ := ps_ticks hn hnb hn6 k (tk + 1) M1 lt1 (by omega) (by omega) (fun X hX => by
      obtain ⟨p1, p2⟩ := ps_tick (tk := tk + 1) hn hX hnb hn6 (h X hX).1 et (fun s hs => by have := (h s hs).2; omega) hr
      have := (h X hX).2
      exact ⟨p1, by omega⟩) tk' M' lt' he
    exact ⟨by omega, a2⟩
/-- all letters, by their origins -/
theorem len_og : ∀ lt : List LT, (∀ l ∈ lt, og_ l.2.2 < 6) → lt.length = s6_ (fun X => lt.countP (fun l => decide (og_ l.2.2 = X)))
  | [], _ => rfl
  | l :: lt, h => by
    have ih := len_og lt (fun z hz => h z (List.mem_cons_of_mem _ hz))
    have h6 := h l List.mem_cons_self
    unfold s6_ at ih ⊢
    rw [List.length_cons, ih]
    simp only [List.countP_cons]
    generalize og_ l.2.2 = g at h6
    rcases (show g = 0 ∨ g = 1 ∨ g = 2 ∨ g = 3 ∨ g = 4 ∨ g = 5 by omega) with e | e | e | e | e | e <;> subst e <;> simp <;> omega
end CHANGE
