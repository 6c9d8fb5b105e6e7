/-! EARLY TICKS RENEW NOTHING -/
theorem lj_early {nb : Nat → Nat → Bool} (cst : Nat → Nat → Int32) {f : Nat → Nat} {d n : Nat} {tk : Int32} {M : MP} {lt : List LT} (hn : n ≤ 6) (hnb : NB_ nb) (h0n : 0 < n) (hd : d ≤ 100000) (h : LJ f d n tk M lt) (ht : tk.toInt + 1 < 10) : LJ f d n (tk + 1) (mtick nb cst n (tk + 1) M lt).1 (mtick nb cst n (tk + 1) M lt).2 := by
  obtain ⟨h0, h1, ho, hz⟩ := h
  have et := toI1 h0 (by omega)
  refine ⟨by omega, fun X hX => ?_, og_tick hn hnb ho, fun z => by omega⟩
  obtain ⟨⟨L, l1, l2, l3⟩, l4⟩ := h1 X hX
  have ha := (l2.ag X).1
  obtain ⟨k1, k2, k3, -, -⟩ := tick_keep (cst := cst) hn hX hnb l2 (tk := tk + 1) (by omega) (fun s hs => by have := (h1 s hs).2; omega) (by omega) (M' := (mtick nb cst n (tk + 1) M lt).1) (lt' := (mtick nb cst n (tk + 1) M lt).2) rfl
  exact ⟨⟨L, l1, k1, k2⟩, by rw [k3]; omega⟩
theorem pass1_gv {R r d T : Nat} {capE : Nat} {PP : List PG} (mc : Int32) {ds cs mp pk : Nat → Int32} {cap : Nat} {cn : Int32} (sn : Int32) {n tk : Int32} (av lo md : Int32) (h : GV R r d T capE PP ds cs mp pk cap cn n tk) (hr : r ≤ R) (hR : R ≤ 32) (hd : d ≤ 100000) (hT : T + 1 < 10) (hP : PP.length ≤ 880000) (hn0 : 0 < n.toInt) :
    ∃ capE' mc' mp' cap' pk' cn' sn' tk' av' lo' md' PP' c sl, F_X8_carryOut_ad5 capE PP mc ds cs mp pk cap cn sn n tk av lo md (nI 1) = (cn', capE', mc', mp', cap', pk', cn', sn', tk', av', lo', md', PP', c, sl) ∧
      GV R r d (T + 1) capE' PP' ds cs mp' pk' cap' cn' n tk' ∧ (∃ Q, PP' = PP ++ Q ∧ Q.length ≤ 6 * 1) ∧ CO cap cap' capE capE' PP PP' c sl := by
  obtain ⟨⟨M, lt, N, f, g1a, rfl, g3, g4, g5, g6, g7, g8, g10, g11, g12, goz⟩, g1b, ⟨g1c, g1d, g1e⟩, g9⟩ := h
  have g1 : SVS mp pk cap cn capE PP M lt := ⟨g1a, g1b, g1c, g1d, g1e⟩
  rw [nI_toInt (by omega)] at hn0
  have hLB := lj_LB (ds := ds) (T := T) g3 g5 g10 g11 hr hd g12 (by omega)
  have hL : LBB = 72420 := rfl
  have hBR := BR_le hR
  have hBP := BR_pos R
  obtain ⟨capE', mc', mp', cap', pk', cn', sn', tk', av', lo', md', PP', c, sl, e, k0, k1, k2, k3, k4⟩ := pass_svs mc (ds := ds) sn (n := N) g3 g4 (B := BR R) (T := 1) (by omega) (by omega) tk av lo md g1 (LB.le (by omega) hLB) (by omega)
  have hj := lj_early (cstF cs) g3 (nbF_NB (ds := ds) g3 g5) (by omega) hd g10 (by omega)
  have k0 : tk' = tk + 1 := k0
  have et := toI1 g10.1 (by omega)
  subst k0
  exact ⟨capE', mc', mp', cap', pk', cn', sn', tk + 1, av', lo', md', PP', c, sl, e, GV.mk k1 rfl g3 g4 g5 g6 g7 g8 (by omega) hj (by omega) (oz_ticks _ _ (nbF_NB (ds := ds) g3 g5) _ _ _ _ goz) g11, k3, k4⟩
