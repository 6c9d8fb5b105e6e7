/-! A WHOLE TICK -/
theorem SIM.cnI {PP : List PG} {mp pk : Nat → Int32} {cn : Int32} {M : MP} {lt : List LT} (h : SIM PP mp pk cn M lt) : cn = nI lt.length := by
  have h1 := h.2.2.2.1
  have h2 := Int32.toInt_lt cn
  exact qI_eq (by omega) h1
theorem first_spec {PP : List PG} {mp pk : Nat → Int32} {cn : Int32} {M : MP} {old out : List LT} (h : SIM PP mp pk cn M (old ++ out)) :
    ∃ pk' cn', F_X5_removeFirst pk cn (nI old.length) = (pk', cn') ∧ SIM PP mp pk' cn' M out := by
  obtain ⟨hp, hm, hM, hc, hL⟩ := h
  have hcl := Int32.toInt_lt cn
  rw [List.length_append] at hc
  have ho : (nI old.length).toInt = old.length := nI_toInt (by omega)
  have e : (cn - nI old.length).toInt = out.length := by rw [subI (by omega) (by omega)]; omega
  have ei : ix (cn - nI old.length) = out.length := by rw [ix_toNat, e]; rfl
  unfold F_X5_removeFirst
  rw [if_neg (by rw [Int32.lt_iff_toInt_lt, i0]; omega), if_neg (by rw [Int32.lt_iff_toInt_lt]; omega), ei, qI_ix (by omega)]
  refine ⟨_, _, rfl, hp, hm, hM, e, fun k l hk => ?_⟩
  have hkl : k < out.length := (List.getElem?_eq_some_iff.mp hk).1
  have e2 : va_cpy pk pk old.length 0 out.length k = pk (old.length + k) := by
    unfold va_cpy
    rw [if_pos (by omega)]
    first | rfl | (congr 1; omega) | (congr 1)
  rw [e2]
  exact hL (old.length + k) l (by rw [List.getElem?_append_right (Nat.le_add_right _ _), Nat.add_sub_cancel_left]; exact hk)
theorem mtick_len (nb : Nat → Nat → Bool) (cst : Nat → Nat → Int32) (n : Nat) (tk : Int32) (M : MP) (lt : List LT) : ((List.range n).foldl (mph1 nb cst n tk) (M, [])).2.length ≤ (mtick nb cst n tk M lt).2.length := mdls_mono nb n lt _
theorem tick_spec {capE : Nat} {PP : List PG} (mc : Int32) {ds cs mp pk : Nat → Int32} {cap : Nat} {cn : Int32} (sn : Int32) {n : Nat} (hn : n ≤ 6) (tk av lo md : Int32) {M : MP} {lt : List LT} (h : SIM PP mp pk cn M lt) (hc : LC cap cn) (hE : EC capE PP.length) (hPG : PGX_ PP) (hcs : CSR_ cs)
    (hl : lt.length + 42 < 900000) (hl2 : lt.length + (mtick (nbF ds cs n) (cstF cs) n (tk + 1) M lt).2.length + 6 < 900000) (hP : PP.length ≤ 970000) :
    ∃ capE' mc' mp' cap' pk' cn' sn' av' lo' md' PP' c sl, F_X8_tickOnce capE PP mc ds cs mp pk cap cn sn (nI n) tk av lo md = (capE', mc', mp', cap', pk', cn', sn', tk + 1, av', lo', md', PP', c, sl) ∧
      SIM PP' mp' pk' cn' (mtick (nbF ds cs n) (cstF cs) n (tk + 1) M lt).1 (mtick (nbF ds cs n) (cstF cs) n (tk + 1) M lt).2 ∧ LC cap' cn' ∧ EC capE' PP'.length ∧ PGX_ PP' ∧ (∃ Q, PP' = PP ++ Q ∧ Q.length ≤ 6) ∧
      cap' ≤ max cap (2 * (lt.length + (mtick (nbF ds cs n) (cstF cs) n (tk + 1) M lt).2.length + 6)) ∧ capE' ≤ max capE (PP'.length + PP'.length / 2) ∧ CO cap cap' capE capE' PP PP' c sl := by
  have hcI := h.cnI
  have hml := mtick_len (nbF ds cs n) (cstF cs) n (tk + 1) M lt
  have h0 : SIM PP mp pk cn M (lt ++ []) := by rw [List.append_nil]; exact h
  obtain ⟨mc1, cn1, sn1, md1, capE1, cap1, mp1, pk1, PP1, c1, s1, e1, g1, g2, g3, g4, ⟨Q, g5, g6⟩, g7, g8, g9, g10, g11⟩ := tick20_spec hn hcs tk lt _ 0 mc cn sn md capE cap mp pk PP 0 0 M [] (Nat.zero_le _) (fuel_nI hn) h0 hc hE hPG (by rw [List.append_nil]; omega) (by omega)
  rw [List.drop_zero] at g1 g8 g9
  generalize hst : (List.range n).foldl (mph1 (nbF ds cs n) (cstF cs) n (tk + 1)) (M, []) = st at g1 g8 g9 hml
  obtain ⟨M1, out1⟩ := st
  have hml : out1.length ≤ (mtick (nbF ds cs n) (cstF cs) n (tk + 1) M lt).2.length := hml
  have g9 : cap1 ≤ max cap (2 * (lt.length + out1.length + 6)) := g9
  have em : mtick (nbF ds cs n) (cstF cs) n (tk + 1) M lt = lt.foldl (mdl (nbF ds cs n) n) (M1, out1) := by unfold mtick; rw [hst]
  rw [em] at hl2 hml ⊢
  obtain ⟨mp2, cap2, pk2, cn2, sn2, av2, lo2, c2, s2, e2, q1, q2, q3, q4, q5, q6⟩ := tick63_spec (ds := ds) (cs := cs) hn g4 cn hcI (by omega) ((((cn : Int32).toInt - (0 : Int32).toInt).toNat + 1)) 0 mp1 pk1 cap1 cn1 sn1 av lo (0 + c1) (0 + s1) M1 out1 (Nat.zero_le _) (by rw [hcI, nI_toInt (by omega), i0]; omega) g1 g2 (by rw [List.drop_zero]; exact hl2)
  rw [List.drop_zero] at q1 q4
  obtain ⟨pk3, cn3, e3, w1⟩ := first_spec q1
  rw [← hcI] at e3
  have hE1 : capE ≤ capE1 := g11.2.1
  obtain ⟨u1, u2, u3, u4, u5⟩ := g11
  refine ⟨capE1, mc1, mp2, cap2, pk3, cn3, sn2, av2, lo2, md1, PP1, c1 + c2, s1 + s2, ?_, w1, ?_, g3, g4, ⟨Q, g5, Nat.le_trans g6 (by omega)⟩, ?_, g10, ⟨by omega, by omega, by omega, by omega, by omega⟩⟩
  · unfold F_X8_tickOnce
    rw [show nI 0 = (0 : Int32) from rfl] at e1 e2
    rw [e1, show K_X8_tickOnce_20 ds cs cn (nI n) tk av lo (nI n, mc1, cn1, sn1, md1, capE1, cap1, mp1, pk1, PP1, 0 + c1, 0 + s1) = K_X8_tickOnce_63 cn tk mc1 md1 capE1 PP1 (L_X8_tickOnce_63 ds cs cn (nI n) PP1 (((cn : Int32).toInt - (0 : Int32).toInt).toNat + 1) 0 cn1 sn1 av lo cap1 mp1 pk1 (0 + c1) (0 + s1)) from rfl, e2]
    rw [show K_X8_tickOnce_63 cn tk mc1 md1 capE1 PP1 (nI lt.length, cn2, sn2, av2, lo2, cap2, mp2, pk2, 0 + c1 + c2, 0 + s1 + s2) = (capE1, mc1, mp2, cap2, (F_X5_removeFirst pk2 cn2 cn).1, (F_X5_removeFirst pk2 cn2 cn).2, sn2, tk + 1, av2, lo2, md1, PP1, (0 + c1 + c2) + 0, (0 + s1 + s2) + 0) from rfl, e3]
    simp only [Nat.zero_add, Nat.add_zero]
  · obtain ⟨z1, z2, z3, z4⟩ := q2
    have w4 := w1.2.2.2.1
    have q14 := q1.2.2.2.1
    rw [List.length_append] at q14
    exact ⟨by omega, by omega, z3, z4⟩
  · have hlen : out1.length ≤ (lt.foldl (mdl (nbF ds cs n) n) (M1, out1)).2.length := hml
    omega
