/-! A PASS: how many serials of a surveyor stay alive -/
def BB : Nat → Nat
  | 0 => 0
  | r + 1 => BB r + 20 * (r + 1) + 5
theorem BB_step (r : Nat) : BB (r + 1) = BB r + 20 * (r + 1) + 5 := rfl
theorem BB_mono {a b : Nat} (h : a ≤ b) : BB a ≤ BB b := by
  induction h with
  | refl => exact Nat.le_refl _
  | step _ ih => rw [BB_step]; omega
/-- every entry is the first page, or one of its own surveyor with a positive serial -/
def WO2_ (M : MP) : Prop := ∀ b o : Nat, M b o = pg0 ∨ (og_ (M b o) = o ∧ 0 < sr_ (M b o))
theorem WO2_.wo {M : MP} (h : WO2_ M) : WO_ M := fun b o => (h b o).elim (fun z => Or.inl (by rw [z]; exact pg0_s)) (fun z => Or.inr z.1)
theorem WO2_.nn {M : MP} (h : WO2_ M) (b o : Nat) : 0 ≤ sr_ (M b o) := (h b o).elim (fun z => by rw [z]; exact Int.le_of_eq pg0_s.symm) (fun z => Int.le_of_lt z.2)
theorem pg0_sr : sr_ pg0 = 0 := pg0_s
theorem ageI {t m c : Int32} (h0 : 0 ≤ m.toInt) (h1 : m.toInt ≤ t.toInt) : t - m < c ↔ t.toInt - m.toInt < c.toInt := by
  rw [Int32.lt_iff_toInt_lt, subI (by omega) (by have := Int32.toInt_lt t; omega)]
theorem rk_app {L : List Int} {w c : Int} (h : c < w) : rk_ (L ++ [w]) c = rk_ L c := by
  unfold rk_
  rw [List.countP_append, List.countP_singleton, if_neg (fun z => absurd (of_decide_eq_true z) (by omega))]
  rfl
theorem rk_top {L : List Int} {c : Int} (h : ∀ v ∈ L, v ≤ c) : rk_ L c = L.length := List.countP_eq_length.mpr (fun v hv => decide_eq_true (h v hv))
theorem rk_app2 {L1 L2 : List Int} {c : Int} (h : ∀ v ∈ L2, c < v) : rk_ (L1 ++ L2) c = rk_ L1 c := by
  unfold rk_
  have e : L2.countP (fun v => decide (v ≤ c)) = 0 := List.countP_eq_zero.mpr (fun v hv z => absurd (of_decide_eq_true z) (by have := h v hv; omega))
  rw [List.countP_append, e]
  rfl
section PASS
variable {nb : Nat → Nat → Bool} {cst : Nat → Nat → Int32} {n X : Nat}
theorem msl_len5 {s ex : Nat} {p : PG} (hn : n ≤ 6) (hnb : NB_ nb) (hs : s < 6) : (msl nb n s p ex).length ≤ 5 := by
  have key : ∀ i : Fin 6, (List.range 6).countP (fun o => decide (o ≠ i.val)) ≤ 5 := by decide
  unfold msl
  rw [List.length_map, ← List.countP_eq_length_filter]
  refine Nat.le_trans ?_ (key ⟨s, hs⟩)
  refine Nat.le_trans (List.countP_mono_left (p := fun o => decide (o ≠ ex) && nb s o) (q := fun o => decide (o ≠ s)) (fun x _ hx9 => ?_)) ?_
  · rw [Bool.and_eq_true] at hx9
    exact decide_eq_true (fun e => (hnb s x hx9.2).2.2.1 e.symm)
  · exact (List.range_sublist.mpr hn).countP_le
/-- the entries, as letters arrive -/
theorem mdl_WO2 (ls : List LT) (M : MP) (out : List LT) (h1 : WO2_ M) (h2 : ∀ l ∈ ls, 0 < sr_ l.2.2) (h3 : ∀ l ∈ out, 0 < sr_ l.2.2) :
    WO2_ (ls.foldl (mdl nb n) (M, out)).1 ∧ ∀ l ∈ (ls.foldl (mdl nb n) (M, out)).2, 0 < sr_ l.2.2 := by
  have k := mdl_ind (nb := nb) (n := n) (I := fun M out ls => WO2_ M ∧ (∀ l ∈ ls, 0 < sr_ l.2.2) ∧ ∀ l ∈ out, 0 < sr_ l.2.2) (fun M out l ls h => by
    obtain ⟨s, r, p⟩ := l
    obtain ⟨g1, g2, g3⟩ := h
    have g2' : ∀ l ∈ ls, 0 < sr_ l.2.2 := fun l hl => g2 l (List.mem_cons_of_mem _ hl)
    have gp : 0 < sr_ p := g2 (s, r, p) List.mem_cons_self
    rcases mdl_cases (nb := nb) (n := n) M out s r p with ⟨e, -⟩ | ⟨c1, c2, c3, e⟩ | ⟨c1, c2, c3, e⟩
    · rw [e]; exact ⟨g1, g2', g3⟩
    · rw [e]
      dsimp only
      refine ⟨fun b o => ?_, g2', fun l hl => ?_⟩
      · unfold mset
        by_cases h : b = r ∧ o = og_ p
        · rw [if_pos h]; exact Or.inr ⟨h.2.symm, gp⟩
        · rw [if_neg h]; exact g1 b o
      · rcases List.mem_append.mp hl with h | h
        · exact g3 l h
        · rw [(mem_msl h).2.1]; exact gp
    · rw [e]
      refine ⟨g1, g2', fun l hl => ?_⟩
      rcases List.mem_append.mp hl with h | h
      · exact g3 l h
      · have h := List.mem_singleton.mp h
        subst h
        show 0 < sr_ (M r (og_ p))
        omega) ls M out ⟨h1, h2, h3⟩
  exact ⟨k.1, k.2.2⟩
/-- X's own page, as letters arrive -/
theorem mdl_own (ls : List LT) (M : MP) (out : List LT) : (ls.foldl (mdl nb n) (M, out)).1 X X = M X X :=
  mdl_ind (nb := nb) (n := n) (I := fun M' _ _ => M' X X = M X X) (fun M' out l ls h => by
    obtain ⟨s, r, p⟩ := l
    rcases mdl_cases (nb := nb) (n := n) M' out s r p with ⟨e, -⟩ | ⟨c1, c2, c3, e⟩ | ⟨c1, c2, c3, e⟩
    · rw [e]; exact h
    · rw [e]
      show mset M' r (og_ p) p X X = M X X
      rw [show mset M' r (og_ p) p X X = M' X X from if_neg (fun z => c2 (z.2.symm.trans z.1))]
      exact h
    · rw [e]; exact h) ls M out rfl
theorem ph1_WO2 (hn : n ≤ 6) {tk : Int32} : ∀ (ss : List Nat) (M : MP) (out : List LT), (∀ s ∈ ss, s < 6) → WO2_ M → (∀ s ∈ ss, sr_ (M s s) < 2000000) → ss.Nodup → WO2_ (ss.foldl (mph1 nb cst n tk) (M, out)).1
  | [], M, out, _, h, _, _ => h
  | s :: ss, M, out, h6, h, hs, hd => by
    obtain ⟨hd1, hd2⟩ := List.nodup_cons.mp hd
    rw [List.foldl_cons, ph1_X]
    have hf : WO2_ (mfor n M s 20 tk) := fun b o => by
      unfold mfor
      split
      · exact Or.inl rfl
      · exact h b o
    have hz : ∀ z ∈ ss, z ≠ s := fun z hz e => hd1 (by rw [← e]; exact hz)
    by_cases c : tk - (M s s).2.2.1 < 10
    · rw [if_pos c]
      exact ph1_WO2 hn ss _ _ (fun z hz => h6 z (List.mem_cons_of_mem _ hz)) hf (fun z h9 => by
        rw [show mfor n M s 20 tk z z = M z z from if_neg (fun w => hz z h9 w.1)]
        exact hs z (List.mem_cons_of_mem _ h9)) hd2
    · rw [if_neg c]
      refine ph1_WO2 hn ss _ _ (fun z hz => h6 z (List.mem_cons_of_mem _ hz)) (fun b o => ?_) (fun z h9 => ?_) hd2
      · unfold mset
        split
        · rename_i h9
          refine Or.inr ⟨by rw [h9.2]; exact og_nI (Nat.lt_of_lt_of_le (h6 s List.mem_cons_self) (by decide)), ?_⟩
          show 0 < ((M s s).2.1 + 1).toInt
          have e1 : (1 : Int32).toInt = 1 := by decide +kernel
          have h0 := h.nn s s
          have h1 := hs s List.mem_cons_self
          unfold sr_ at h0 h1
          rw [addI (by omega) (by omega)]
          omega
        · exact hf b o
      · rw [show mset (mfor n M s 20 tk) s s (mnew nb cst n tk M s) z z = mfor n M s 20 tk z z from if_neg (fun w => hz z h9 w.1), show mfor n M s 20 tk z z = M z z from if_neg (fun w => hz z h9 w.1)]
        exact hs z (List.mem_cons_of_mem _ h9)
/-- how X's letters stand: the serials that may be alive are a list's -/
abbrev RB_ (X : Nat) (L : List Int) (tk : Int32) (M : MP) (lt : List LT) : Prop :=
  (∀ v ∈ L, 0 < v) ∧
  (WO2_ M) ∧
  (WX_ X L M) ∧
  (LX_ X L lt) ∧
  (∀ v ∈ L, v ≤ sr_ (M X X)) ∧
  (∀ l ∈ lt, 0 < sr_ l.2.2) ∧
  (∀ b, 0 ≤ mA_ (M b X) ∧ mA_ (M b X) ≤ tk.toInt) ∧
  (∀ l ∈ lt, og_ l.2.2 = X → 0 ≤ mA_ l.2.2 ∧ mA_ l.2.2 ≤ tk.toInt) ∧
  (∀ ρ, ρ < L.length → lt.countP (fun l => qc_ X L ρ l.2.2) ≤ BB ρ)
theorem RB_.pos {X : Nat} {L : List Int} {tk : Int32} {M : MP} {lt : List LT} (h : RB_ X L tk M lt) : ∀ v ∈ L, 0 < v := h.1
theorem RB_.wo {X : Nat} {L : List Int} {tk : Int32} {M : MP} {lt : List LT} (h : RB_ X L tk M lt) : WO2_ M := h.2.1
theorem RB_.wx {X : Nat} {L : List Int} {tk : Int32} {M : MP} {lt : List LT} (h : RB_ X L tk M lt) : WX_ X L M := h.2.2.1
theorem RB_.lx {X : Nat} {L : List Int} {tk : Int32} {M : MP} {lt : List LT} (h : RB_ X L tk M lt) : LX_ X L lt := h.2.2.2.1
theorem RB_.top {X : Nat} {L : List Int} {tk : Int32} {M : MP} {lt : List LT} (h : RB_ X L tk M lt) : ∀ v ∈ L, v ≤ sr_ (M X X) := h.2.2.2.2.1
theorem RB_.lp {X : Nat} {L : List Int} {tk : Int32} {M : MP} {lt : List LT} (h : RB_ X L tk M lt) : ∀ l ∈ lt, 0 < sr_ l.2.2 := h.2.2.2.2.2.1
theorem RB_.ag {X : Nat} {L : List Int} {tk : Int32} {M : MP} {lt : List LT} (h : RB_ X L tk M lt) : ∀ b, 0 ≤ mA_ (M b X) ∧ mA_ (M b X) ≤ tk.toInt := h.2.2.2.2.2.2.1
theorem RB_.lg {X : Nat} {L : List Int} {tk : Int32} {M : MP} {lt : List LT} (h : RB_ X L tk M lt) : ∀ l ∈ lt, og_ l.2.2 = X → 0 ≤ mA_ l.2.2 ∧ mA_ l.2.2 ≤ tk.toInt := h.2.2.2.2.2.2.2.1
theorem RB_.cn {X : Nat} {L : List Int} {tk : Int32} {M : MP} {lt : List LT} (h : RB_ X L tk M lt) : ∀ ρ, ρ < L.length → lt.countP (fun l => qc_ X L ρ l.2.2) ≤ BB ρ := h.2.2.2.2.2.2.2.2
def TT_ (X : Nat) (L : List Int) (lt : List LT) : Prop := lt.countP (fun l => decide (og_ l.2.2 = X)) ≤ BB L.length
theorem RB_.le {L : List Int} {tk : Int32} {M : MP} {lt : List LT} (h : RB_ X L tk M lt) (b : Nat) : sr_ (M b X) ≤ sr_ (M X X) := by
  rcases h.wx b with z | z
  · have := h.wo.nn X X
    unfold sr_ at *
    omega
  · exact h.top _ z.2
/-- the letters of a tick -/
theorem dlv (hn : n ≤ 6) (hX : X < n) (hnb : NB_ nb) {L : List Int} {tk : Int32} {M1 : MP} {ren lt : List LT} (pos : ∀ v ∈ L, 0 < v) (wo : WO2_ M1) (wx : WX_ X L M1) (lx : LX_ X L lt) (lr : LX_ X L ren)
    (lp : ∀ l ∈ lt, 0 < sr_ l.2.2) (rp : ∀ l ∈ ren, 0 < sr_ l.2.2) (rn : ∀ l ∈ ren, nb l.1 l.2.1 = true) (top : ∀ v ∈ L, v ≤ sr_ (M1 X X)) (ag : ∀ b, 0 ≤ mA_ (M1 b X) ∧ mA_ (M1 b X) ≤ tk.toInt)
    (lg : ∀ l ∈ lt, og_ l.2.2 = X → 0 ≤ mA_ l.2.2 ∧ mA_ l.2.2 ≤ tk.toInt) (rg : ∀ l ∈ ren, og_ l.2.2 = X → 0 ≤ mA_ l.2.2 ∧ mA_ l.2.2 ≤ tk.toInt)
    (cn : ∀ ρ, ρ < L.length → lt.countP (fun l => qc_ X L ρ l.2.2) ≤ BB ρ) (cr : ren.countP (fun l => decide (og_ l.2.2 = X)) ≤ 5) {M' : MP} {lt' : List LT} (he : lt.foldl (mdl nb n) (M1, ren) = (M', lt')) :
    RB_ X L tk M' lt' ∧ TT_ X L lt' ∧ M' X X = M1 X X ∧ ∀ l ∈ lt', nb l.1 l.2.1 = true := by
  have hs : ∀ a b, nb a b = true → nb b a = true := fun a b h => (hnb a b h).2.2.2
  have hX6 : X < 6 := by omega
  obtain ⟨w1, w2⟩ := mdl_WO2 (nb := nb) (n := n) lt M1 ren wo lp rp
  have ow := mdl_own (nb := nb) (n := n) (X := X) lt M1 ren
  have nbs := mdl_nb (nb := nb) (n := n) hs lt M1 ren rn
  -- where M1 has X's, it is in X's column
  have col : ∀ b o, og_ (M1 b o) = X → M1 b o = pg0 ∨ o = X := fun b o h => (wo b o).imp id (fun z => z.1.symm.trans h)
  have pw := mdl_pages (nb := nb) (n := n) (P := fun _ p => og_ p = X → sr_ p = 0 ∨ sr_ p ∈ L) (fun _ _ _ _ h => h) hs lt M1 ren (fun b o h => by
    rcases col b o h with z | z
    · rw [z]; exact Or.inl pg0_s
    · subst z; exact (wx b).imp id (fun z => z.2)) (fun l hl _ h => Or.inr (lx l hl h)) (fun l hl h => Or.inr (lr l hl h))
  have pa := mdl_pages (nb := nb) (n := n) (P := fun _ p => og_ p = X → 0 ≤ mA_ p ∧ mA_ p ≤ tk.toInt) (fun _ _ _ _ h => h) hs lt M1 ren (fun b o h => by
    rcases col b o h with z | z
    · have h9 := ag X
      rw [z, pg0_m]; omega
    · subst z; exact ag b) (fun l hl _ h => lg l hl h) (fun l hl h => rg l hl h)
  have ct := fun ρ => mdl_count (n := n) hn hX6 hnb pos ρ (ls := lt) (M := M1) (out := ren) wx wo.wo lx lp
  rw [he] at w1 w2 ow nbs pw pa ct
  obtain ⟨pw1, pw2⟩ := pw
  obtain ⟨pa1, pa2⟩ := pa
  dsimp only at w1 w2 ow nbs pw1 pw2 pa1 pa2 ct
  have lx' : LX_ X L lt' := fun l hl h => (pw2 l hl h).resolve_left (fun z => by have := w2 l hl; omega)
  have hc : ∀ ρ, ρ ≤ L.length → lt'.countP (fun l => qc_ X L ρ l.2.2) ≤ BB ρ := by
    intro ρ hρ
    match ρ, hρ with
    | 0, _ =>
      refine Nat.le_of_eq (List.countP_eq_zero.mpr (fun l hl z => ?_))
      obtain ⟨z1, z2⟩ := of_decide_eq_true z
      have := rk_pos (lx' l hl z1)
      omega
    | r + 1, hρ =>
      have k := ct (r + 1)
      have k1 : lt.countP (fun l => qd_ X L (r + 1) l.2.2) ≤ lt.countP (fun l => qc_ X L r l.2.2) := List.countP_mono_left (fun l _ z => by
        obtain ⟨z1, z2⟩ := of_decide_eq_true z
        exact decide_eq_true ⟨z1, by omega⟩)
      have k2 : ren.countP (fun l => qc_ X L (r + 1) l.2.2) ≤ ren.countP (fun l => decide (og_ l.2.2 = X)) := List.countP_mono_left (fun l _ z => decide_eq_true (of_decide_eq_true z).1)
      have k3 := cn r (by omega)
      rw [BB_step]
      omega
  refine ⟨⟨pos, w1, fun b => ?_, lx', by rw [ow]; exact top, w2, fun b => ?_, fun l hl h => pa2 l hl h, fun ρ hρ => hc ρ (Nat.le_of_lt hρ)⟩, ?_, ow, nbs⟩
  · rcases w1 b X with z | z
    · exact Or.inl (by rw [z]; exact pg0_s)
    · exact Or.inr ⟨z.1, (pw1 b X z.1).resolve_left (fun y => by have := z.2; omega)⟩
  · rcases w1 b X with z | z
    · have h9 := ag X
      rw [z, pg0_m]; omega
    · exact pa1 b X z.1
  · refine Nat.le_trans (List.countP_mono_left (fun l hl z => ?_)) (hc L.length (Nat.le_refl _))
    exact decide_eq_true ⟨of_decide_eq_true z, rk_le _ _⟩
/-- a tick: X keeps its page -/
theorem tick_keep (hn : n ≤ 6) (hX : X < n) (hnb : NB_ nb) {L : List Int} {tk0 tk : Int32} {M : MP} {lt : List LT} (h : RB_ X L tk0 M lt) (ht : tk0.toInt ≤ tk.toInt) (hs : ∀ s, s < n → sr_ (M s s) < 2000000)
    (hk : tk.toInt - mA_ (M X X) < 10) {M' : MP} {lt' : List LT} (he : mtick nb cst n tk M lt = (M', lt')) :
    RB_ X L tk M' lt' ∧ TT_ X L lt' ∧ M' X X = M X X ∧ (∀ l ∈ lt', nb l.1 l.2.1 = true) ∧
    ∃ M1 ren, lt.foldl (mdl nb n) (M1, ren) = (M', lt') ∧ WO2_ M1 ∧ M1 X X = M X X ∧ (∀ b, b ≠ X → M1 b X = M b X ∨ (M1 b X = pg0 ∧ ¬ (tk - (M b X).2.2.1 < 20))) ∧ (∀ l ∈ ren, og_ l.2.2 ≠ X ∧ nb l.1 l.2.1 = true ∧ 0 < sr_ l.2.2) := by
  obtain ⟨M1, ren, e1, e2, e3, e4⟩ := ph1_all (cst := cst) (tk := tk) hnb hn hX h.wo.wo (fun s hs9 => ⟨h.wo.nn s s, hs s hs9⟩)
  have w2 : WO2_ M1 := by
    have := ph1_WO2 (nb := nb) (cst := cst) hn (tk := tk) (List.range n) M [] (fun s hs9 => by have := List.mem_range.mp hs9; omega) h.wo (fun s hs9 => hs s (List.mem_range.mp hs9)) List.nodup_range
    rw [e1] at this
    exact this
  have hm := h.ag X
  have c10 : (10 : Int32).toInt = 10 := by decide +kernel
  have kk : tk - (M X X).2.2.1 < 10 := (ageI hm.1 (by have := hm.2; unfold mA_ at this; omega)).mpr (by rw [c10]; exact hk)
  rcases e4 with ⟨-, e5, e6⟩ | ⟨e5, -, -⟩
  · unfold mtick at he
    rw [e1] at he
    have colb : ∀ b, M1 b X = M b X ∨ M1 b X = pg0 := fun b => by
      by_cases hb : b = X
      · subst hb; exact Or.inl e5
      · exact (e3 b hb).imp id (fun z => z.1)
    have k := dlv (L := L) (tk := tk) hn hX hnb h.pos w2 (fun b => by
        rcases colb b with z | z
        · rw [z]; exact h.wx b
        · rw [z]; exact Or.inl pg0_s) h.lx (fun l hl z => absurd z (e6 l hl).1) h.lp (fun l hl => (e6 l hl).2.2) (fun l hl => (e6 l hl).2.1) (by rw [e5]; exact h.top) (fun b => by
        have h0 := h.ag X
        rcases colb b with z | z
        · rw [z]; have := h.ag b; omega
        · rw [z, pg0_m]; omega) (fun l hl z => by have := h.lg l hl z; omega) (fun l hl z => absurd z (e6 l hl).1) h.cn (by
        rw [List.countP_eq_zero.mpr (fun l hl z => (e6 l hl).1 (of_decide_eq_true z))]; omega) he
    exact ⟨k.1, k.2.1, k.2.2.1.trans e5, k.2.2.2, M1, ren, he, w2, e5, e3, e6⟩
  · exact absurd kk e5
/-- a tick: X makes a new page -/
theorem tick_fresh (hn : n ≤ 6) (hX : X < n) (hnb : NB_ nb) {L : List Int} {tk0 tk : Int32} {M : MP} {lt : List LT} (h : RB_ X L tk0 M lt) (ht9 : TT_ X L lt) (ht : tk0.toInt ≤ tk.toInt) (hs : ∀ s, s < n → sr_ (M s s) < 2000000)
    (hk : ¬ tk.toInt - mA_ (M X X) < 10) {M' : MP} {lt' : List LT} (he : mtick nb cst n tk M lt = (M', lt')) :
    RB_ X (L ++ [sr_ (M X X) + 1]) tk M' lt' ∧ TT_ X (L ++ [sr_ (M X X) + 1]) lt' ∧ (∀ l ∈ lt', nb l.1 l.2.1 = true) ∧
    ∃ M1 ren r1 r2 p, lt.foldl (mdl nb n) (M1, ren) = (M', lt') ∧ WO2_ M1 ∧ M1 X X = p ∧ M' X X = p ∧ (og_ p = X ∧ sr_ p = sr_ (M X X) + 1 ∧ mA_ p = tk.toInt) ∧ (∀ b, b ≠ X → M1 b X = M b X ∨ M1 b X = pg0) ∧ ren = r1 ++ msl nb n X p 99 ++ r2 ∧ (∀ l ∈ ren, nb l.1 l.2.1 = true ∧ 0 < sr_ l.2.2) ∧ (∀ l ∈ r1, og_ l.2.2 ≠ X) ∧ (∀ l ∈ r2, og_ l.2.2 ≠ X) := by
  obtain ⟨M1, ren, e1, e2, e3, e4⟩ := ph1_all (cst := cst) (tk := tk) hnb hn hX h.wo.wo (fun s hs9 => ⟨h.wo.nn s s, hs s hs9⟩)
  have w2 : WO2_ M1 := by
    have := ph1_WO2 (nb := nb) (cst := cst) hn (tk := tk) (List.range n) M [] (fun s hs9 => by have := List.mem_range.mp hs9; omega) h.wo (fun s hs9 => hs s (List.mem_range.mp hs9)) List.nodup_range
    rw [e1] at this
    exact this
  have hm := h.ag X
  have c10 : (10 : Int32).toInt = 10 := by decide +kernel
  have kk : ¬ (tk - (M X X).2.2.1 < 10) := fun z => hk (by
    have := (ageI hm.1 (by have := hm.2; unfold mA_ at this; omega)).mp z
    rw [c10] at this
    exact this)
  rcases e4 with ⟨e5, -, -⟩ | ⟨-, e5, r1, r2, e6, e7, e8⟩
  · exact absurd e5 kk
  · unfold mtick at he
    rw [e1] at he
    have hX6 : X < 6 := by omega
    generalize hp : mnew nb cst n tk M X = p at e5 e6
    have pog : og_ p = X := by rw [← hp]; exact og_nI (Nat.lt_of_lt_of_le hX6 (by decide))
    have psr : sr_ p = sr_ (M X X) + 1 := by
      rw [← hp]
      show ((M X X).2.1 + 1).toInt = _
      have h0 := h.wo.nn X X
      have h1 := hs X hX
      have e1 : (1 : Int32).toInt = 1 := by decide +kernel
      unfold sr_ at h0 h1 ⊢
      rw [addI (by omega) (by omega), e1]
    have pma : mA_ p = tk.toInt := by rw [← hp]; rfl
    have h0 := h.wo.nn X X
    have mm : ∀ l ∈ ren, (og_ l.2.2 ≠ X ∨ l.2.2 = p) ∧ nb l.1 l.2.1 = true ∧ 0 < sr_ l.2.2 := fun l hl => by
      rw [e6] at hl
      rcases List.mem_append.mp hl with z | z
      · rcases List.mem_append.mp z with y | y
        · exact ⟨Or.inl (e7 l y).1, (e7 l y).2⟩
        · obtain ⟨m1, m2, -, -, m5⟩ := mem_msl y
          exact ⟨Or.inr m2, by rw [m1]; exact m5, by rw [m2, psr]; omega⟩
      · exact ⟨Or.inl (e8 l z).1, (e8 l z).2⟩
    have colb : ∀ b, b ≠ X → M1 b X = M b X ∨ M1 b X = pg0 := fun b hb => (e3 b hb).imp id (fun z => z.1)
    have hlt : ∀ v ∈ L, v < sr_ (M X X) + 1 := fun v hv => by have := h.top v hv; omega
    have inL : ∀ {v : Int}, v ∈ L → v ∈ L ++ [sr_ (M X X) + 1] := fun hv => List.mem_append_left _ hv
    have inw : sr_ p ∈ L ++ [sr_ (M X X) + 1] := by rw [psr]; exact List.mem_append_right _ List.mem_cons_self
    have k := dlv (L := L ++ [sr_ (M X X) + 1]) (tk := tk) hn hX hnb (fun v hv => by
        rcases List.mem_append.mp hv with z | z
        · exact h.pos v z
        · rw [List.mem_singleton.mp z]; omega) w2 (fun b => by
        by_cases hb : b = X
        · subst hb; rw [e5]; exact Or.inr ⟨pog, inw⟩
        · rcases colb b hb with z | z
          · rw [z]; exact (h.wx b).imp id (fun y => ⟨y.1, inL y.2⟩)
          · rw [z]; exact Or.inl pg0_s) (fun l hl z => inL (h.lx l hl z)) (fun l hl z => by
        rcases (mm l hl).1 with y | y
        · exact absurd z y
        · rw [y]; exact inw) h.lp (fun l hl => (mm l hl).2.2) (fun l hl => (mm l hl).2.1) (fun v hv => by
        rw [e5, psr]
        rcases List.mem_append.mp hv with z | z
        · exact Int.le_of_lt (hlt v z)
        · rw [List.mem_singleton.mp z]; exact Int.le_refl _) (fun b => by
        by_cases hb : b = X
        · subst hb; rw [e5, pma]; omega
        · rcases colb b hb with z | z
          · rw [z]; have := h.ag b; omega
          · rw [z, pg0_m]; omega) (fun l hl z => by have := h.lg l hl z; omega) (fun l hl z => by
        rcases (mm l hl).1 with y | y
        · exact absurd z y
        · rw [y, pma]; omega) (fun ρ hρ => by
        rw [List.length_append, List.length_singleton] at hρ
        by_cases c : ρ < L.length
        · refine Nat.le_trans (List.countP_mono_left (fun l hl z => ?_)) (h.cn ρ c)
          obtain ⟨z1, z2⟩ := of_decide_eq_true z
          rw [rk_app (hlt _ (h.lx l hl z1))] at z2
          exact decide_eq_true ⟨z1, z2⟩
        · have e9 : ρ = L.length := by omega
          rw [e9]
          exact Nat.le_trans (List.countP_mono_left (fun l hl z => decide_eq_true (of_decide_eq_true z).1)) ht9) (by
        rw [e6, List.countP_append, List.countP_append, List.countP_eq_zero.mpr (fun l hl z => (e7 l hl).1 (of_decide_eq_true z)), List.countP_eq_zero.mpr (fun l hl z => (e8 l hl).1 (of_decide_eq_true z))]
        have a1 : (msl nb n X p 99).countP (fun l => decide (og_ l.2.2 = X)) ≤ (msl nb n X p 99).length := List.countP_le_length
        have a2 := msl_len5 (nb := nb) (n := n) (s := X) (ex := 99) (p := p) hn hnb hX6
        omega) he
    exact ⟨k.1, k.2.1, k.2.2.2, M1, ren, r1, r2, p, he, w2, e5, k.2.2.1.trans e5, ⟨pog, psr, pma⟩, colb, e6, fun l hl => (mm l hl).2, fun l hl => (e7 l hl).1, fun l hl => (e8 l hl).1⟩
end PASS
