/-! A GOOD SURVEY UNDER A MOVE -/
theorem lj_mmv {nb : Nat → Nat → Bool} {cst : Nat → Nat → Int32} {n : Nat} (hn : n ≤ 6) (hnb : NB_ nb) (tk : Int32) (cs : Nat → Int32) (s : Nat) {f : Nat → Nat} {d : Nat} (hb : tk.toInt + d + 10 < 1999999) : ∀ (k x : Nat) (st : MP × List LT), x ≤ n → LJ (fun X => f X + if X < x then 1 else 0) (d + x) n tk st.1 st.2 → LJ (fun X => f X + 1) (d + 6) n tk (mmvL nb cst n tk cs s k x st).1 (mmvL nb cst n tk cs s k x st).2 := by
  intro k
  induction k with
  | zero =>
    intro x st hx h
    exact h.mono (fun X _ => by show f X + ite _ _ _ ≤ f X + 1; split <;> omega) (by omega)
  | succ k ih =>
    intro x st hx h
    unfold mmvL
    by_cases c : n ≤ x
    · rw [if_pos c]
      exact h.mono (fun X _ => by show f X + ite _ _ _ ≤ f X + 1; split <;> omega) (by omega)
    · rw [if_neg c]
      refine ih (x + 1) _ (by omega) ?_
      unfold mmst
      by_cases c1 : x = s ∨ ¬ cs (6 * s + x) ≤ 0
      · rw [if_pos c1]
        obtain ⟨M, lt⟩ := st
        have z := LJ.ren cst hn hnb h (s := x) (by omega) (by omega)
        refine z.mono (fun X _ => ?_) (by omega)
        show ite _ (f X + ite _ _ _ + 1) (f X + ite _ _ _) ≤ f X + ite _ _ _
        by_cases e : X = x
        · rw [if_pos e, if_neg (by omega), if_pos (by omega)]
          exact Nat.le_refl _
        · rw [if_neg e]
          by_cases e2 : X < x
          · rw [if_pos e2, if_pos (by omega)]
            exact Nat.le_refl _
          · rw [if_neg e2]
            exact Nat.le_add_right _ _
      · rw [if_neg c1]
        exact h.mono (fun X _ => by
          show f X + ite _ _ _ ≤ f X + ite _ _ _
          by_cases e2 : X < x
          · rw [if_pos e2, if_pos (by omega)]
            exact Nat.le_refl _
          · rw [if_neg e2]
            exact Nat.le_add_right _ _) (by omega)
theorem move_gv {R r d T : Nat} {capE : Nat} {PP : List PG} (mc : Int32) {ds cs mp pk : Nat → Int32} {cap : Nat} {cn : Int32} (sn : Int32) {n tk : Int32} (lo md : Int32) (h : GV R r d T capE PP ds cs mp pk cap cn n tk) (hr : r ≤ R) (hR : R ≤ 32) (hd : d ≤ 100000) (hT : T < 500000) (hP : PP.length ≤ 880000) {s : Nat} (hs : (s : Int) < n.toInt) {v : Int32} (h0 : 0 ≤ v.toInt) (h2 : v.toInt ≤ 2) :
    ∃ capE' mc' mp' cap' pk' cn' sn' lo' md' PP' c sl, F_X8_moveTo capE PP mc ds cs mp pk cap cn sn n tk lo md (nI s) v = (ds s, capE', mc', upd ds s v, mp', cap', pk', cn', sn', lo', md', PP', c, sl) ∧
      GV R (r + 1) (d + 6) T capE' PP' (upd ds s v) cs mp' pk' cap' cn' n tk ∧ (∃ Q, PP' = PP ++ Q ∧ Q.length ≤ 6) ∧ CO cap cap' capE capE' PP PP' c sl := by
  obtain ⟨⟨M, lt, N, f, g1a, rfl, g3, g4, g5, g6, g7, g8, g10, g11, g12, goz⟩, g1b, ⟨g1c, g1d, g1e⟩, g9⟩ := h
  have g1 : SVS mp pk cap cn capE PP M lt := ⟨g1a, g1b, g1c, g1d, g1e⟩
  rw [nI_toInt (by omega)] at hs
  have hLB := LB.len (lj_LB (ds := ds) (T := T) g3 g5 g10 g11 hr hd g12 hT)
  have hL : LBB = 72420 := rfl
  have hBR := BR_le hR
  have hBP := BR_pos R
  obtain ⟨capE', mc', mp', cap', pk', cn', sn', lo', md', PP', c, sl, e, k1, k2, k3, k4⟩ := move_svs mc (ds := ds) sn (n := N) (s := s) g3 (by omega) v g4 g5 tk lo md g1 (by omega) (by omega)
  have hnb := nbF_NB (ds := upd ds s v) g3 g5
  have hj0 := LJ.sub g10 (M' := mfor N M s 0 tk) (lt' := lt.filter (kp s)) (by omega) List.filter_sublist (fun X => if_neg (fun z => z.2.2.1 z.1.symm.symm)) (fun a b => by
    unfold mfor
    split
    · exact Or.inr rfl
    · exact Or.inl rfl)
  have hj := lj_mmv (cst := cstF cs) g3 hnb tk cs s (f := f) (d := d) (by omega) (N + 1) 0 (mfor N M s 0 tk, lt.filter (kp s)) (by omega) (hj0.mono (fun X _ => Nat.le_add_right _ _) (by omega))
  refine ⟨capE', mc', mp', cap', pk', cn', sn', lo', md', PP', c, sl, e, GV.mk k1 rfl g3 g4 g5 (Zf.upd g6 (by omega) v) g7 (fun a ha => ?_) (by omega) hj g12 (oz_mv _ _ _ _ _ hnb _ _ _ (oz_for _ _ _ _ goz)) (fun X => by have := g11 X; omega), k3, k4⟩
  rw [updA]
  split
  · exact ⟨h0, h2⟩
  · exact g8 a ha
