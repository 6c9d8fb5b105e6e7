/-! A PASS OF TICKS -/
theorem pass81 {ds cs : Nat → Int32} {n : Nat} (hn : n ≤ 6) (hcs : CSR_ cs) {B T : Nat} (hT : T ≤ 99) (hB : 2 * B + 50 < 900000) : ∀ (m x : Nat) (mc cn sn tk av lo md : Int32) (capE cap : Nat) (mp pk : Nat → Int32) (PP : List PG) (nc ns : Nat) (M : MP) (lt : List LT), x + m = T → SVS mp pk cap cn capE PP M lt → LB B (nbF ds cs n) (cstF cs) n m tk M lt → PP.length + 6 * m ≤ 900000 →
    ∃ mc' cn' sn' tk' av' lo' md' capE' cap' mp' pk' PP' c sl, L_X8_carryOut_81 ds cs (nI n) (nI T) (m + 1) (nI x) mc cn sn tk av lo md capE cap mp pk PP nc ns = (nI T, mc', cn', sn', tk', av', lo', md', capE', cap', mp', pk', PP', nc + c, ns + sl) ∧
      tk' = (mticks (nbF ds cs n) (cstF cs) n m tk M lt).1 ∧ SVS mp' pk' cap' cn' capE' PP' (mticks (nbF ds cs n) (cstF cs) n m tk M lt).2.1 (mticks (nbF ds cs n) (cstF cs) n m tk M lt).2.2 ∧ cap' ≤ max cap (2 * (2 * B + 6)) ∧ (∃ Q, PP' = PP ++ Q ∧ Q.length ≤ 6 * m) ∧ CO cap cap' capE capE' PP PP' c sl := by
  intro m
  induction m with
  | zero =>
    intro x mc cn sn tk av lo md capE cap mp pk PP nc ns M lt hx h hL hP
    have ex : x = T := by omega
    subst ex
    rw [show L_X8_carryOut_81 ds cs (nI n) (nI x) (0 + 1) (nI x) mc cn sn tk av lo md capE cap mp pk PP nc ns = B_X8_carryOut_81 ds cs (nI n) (nI x) (L_X8_carryOut_81 ds cs (nI n) (nI x) 0) (nI x) mc cn sn tk av lo md capE cap mp pk PP nc ns from rfl]
    unfold B_X8_carryOut_81
    rw [if_pos (by rw [qI_le (by omega) (by omega)]; omega)]
    exact ⟨mc, cn, sn, tk, av, lo, md, capE, cap, mp, pk, PP, 0, 0, rfl, rfl, h, by omega, ⟨[], (List.append_nil _).symm, by simp⟩, CO.rf⟩
  | succ m ih =>
    intro x mc cn sn tk av lo md capE cap mp pk PP nc ns M lt hx h hL hP
    obtain ⟨h1, h2, h3, h4, h5⟩ := h
    obtain ⟨hL1, hL2⟩ := hL
    have hL3 := LB.len hL2
    rw [show L_X8_carryOut_81 ds cs (nI n) (nI T) (m + 1 + 1) (nI x) mc cn sn tk av lo md capE cap mp pk PP nc ns = B_X8_carryOut_81 ds cs (nI n) (nI T) (L_X8_carryOut_81 ds cs (nI n) (nI T) (m + 1)) (nI x) mc cn sn tk av lo md capE cap mp pk PP nc ns from rfl]
    unfold B_X8_carryOut_81
    have c1 : ¬ nI T ≤ nI x := by rw [qI_le (by omega) (by omega)]; omega
    have c2 : ¬ (99 : Int32) ≤ nI x := by
      rw [show (99 : Int32) = nI 99 from rfl, qI_le (by omega) (by omega)]
      omega
    rw [if_neg c1, if_neg c2]
    obtain ⟨capE1, mc1, mp1, cap1, pk1, cn1, sn1, av1, lo1, md1, PP1, c1, s1, e1, g1, g2, g3, g4, ⟨Q1, g5, g6⟩, g7, g8, g9⟩ := tick_spec (ds := ds) mc sn hn tk av lo md h1 h2 h3 h4 hcs (by omega) (by omega) (by omega)
    rw [e1]
    unfold K_X8_carryOut_95
    simp only []
    rw [qI_succ (by omega)]
    have hPl : PP1.length = PP.length + Q1.length := by rw [g5, List.length_append]
    obtain ⟨mc', cn', sn', tk', av', lo', md', capE', cap', mp', pk', PP', c, sl, e2, k0, k1, k2, ⟨Q2, k3, k4⟩, k5⟩ := ih (x + 1) mc1 cn1 sn1 (tk + 1) av1 lo1 md1 capE1 cap1 mp1 pk1 PP1 (nc + c1) (ns + s1) _ _ (by omega) ⟨g1, g2, g3, g4, by omega⟩ hL2 (by omega)
    refine ⟨mc', cn', sn', tk', av', lo', md', capE', cap', mp', pk', PP', c1 + c, s1 + sl, by rw [e2, Nat.add_assoc, Nat.add_assoc], ?_, ?_, by omega, ⟨Q1 ++ Q2, by rw [k3, g5, List.append_assoc], by rw [List.length_append]; omega⟩, CO.tr g9 k5⟩
    · unfold mticks
      exact k0
    · unfold mticks
      exact k1
theorem pass_svs {capE : Nat} {PP : List PG} (mc : Int32) {ds cs mp pk : Nat → Int32} {cap : Nat} {cn : Int32} (sn : Int32) {n : Nat} (hn : n ≤ 6) (hcs : CSR_ cs) {B T : Nat} (hT : T ≤ 99) (hB : 2 * B + 50 < 900000) (tk av lo md : Int32) {M : MP} {lt : List LT} (h : SVS mp pk cap cn capE PP M lt) (hL : LB B (nbF ds cs n) (cstF cs) n T tk M lt) (hP : PP.length + 600 ≤ 900000) :
    ∃ capE' mc' mp' cap' pk' cn' sn' tk' av' lo' md' PP' c sl, F_X8_carryOut_ad5 capE PP mc ds cs mp pk cap cn sn (nI n) tk av lo md (nI T) = (cn', capE', mc', mp', cap', pk', cn', sn', tk', av', lo', md', PP', c, sl) ∧
      tk' = (mticks (nbF ds cs n) (cstF cs) n T tk M lt).1 ∧ SVS mp' pk' cap' cn' capE' PP' (mticks (nbF ds cs n) (cstF cs) n T tk M lt).2.1 (mticks (nbF ds cs n) (cstF cs) n T tk M lt).2.2 ∧ cap' ≤ max cap (2 * (2 * B + 6)) ∧ (∃ Q, PP' = PP ++ Q ∧ Q.length ≤ 6 * T) ∧ CO cap cap' capE capE' PP PP' c sl := by
  obtain ⟨mc', cn', sn', tk', av', lo', md', capE', cap', mp', pk', PP', c, sl, e2, k0, k1, k2, ⟨Q2, k3, k4⟩, k5⟩ := pass81 (ds := ds) hn hcs hT hB T 0 mc cn sn tk av lo md capE cap mp pk PP (0 + 0) (0 + 0) M lt (by omega) h hL (by omega)
  refine ⟨capE', mc', mp', cap', pk', cn', sn', tk', av', lo', md', PP', c, sl, ?_, k0, k1, k2, ⟨Q2, k3, k4⟩, k5⟩
  unfold F_X8_carryOut_ad5
  rw [show (((nI T : Int32).toInt - (0 : Int32).toInt).toNat + 1) = T + 1 from by rw [nI_toInt (by omega), i0]; omega]
  rw [show nI 0 = (0 : Int32) from rfl] at e2
  rw [e2]
  unfold K_X8_carryOut_81
  simp only [Nat.zero_add, Nat.add_zero]
