/-! A TICK -/
theorem mdl_mono (nb : Nat → Nat → Bool) (n : Nat) (st : MP × List LT) (l : LT) : st.2.length ≤ (mdl nb n st l).2.length := by
  unfold mdl
  split
  · exact Nat.le_refl _
  · split
    · exact Nat.le_refl _
    · split
      · show st.2.length ≤ (st.2 ++ _).length; rw [List.length_append]; omega
      · split
        · show st.2.length ≤ (st.2 ++ _).length; rw [List.length_append]; omega
        · exact Nat.le_refl _
theorem mdls_mono (nb : Nat → Nat → Bool) (n : Nat) : ∀ (ls : List LT) (st : MP × List LT), st.2.length ≤ (ls.foldl (mdl nb n) st).2.length
  | [], st => Nat.le_refl _
  | l :: ls, st => by
    rw [List.foldl_cons]
    exact Nat.le_trans (mdl_mono nb n st l) (mdls_mono nb n ls _)
theorem tick63_spec {PP : List PG} {ds cs : Nat → Int32} {n : Nat} (hn : n ≤ 6) (hPG : PGX_ PP) {old : List LT} (cn0 : Int32) (h0 : cn0 = nI old.length) (hold : old.length < 900000) :
    ∀ (k j : Nat) (mp pk : Nat → Int32) (cap : Nat) (cn sn av lo : Int32) (nc ns : Nat) (M : MP) (out : List LT), j ≤ old.length → old.length < j + k → SIM PP mp pk cn M (old ++ out) → LC cap cn →
      old.length + ((old.drop j).foldl (mdl (nbF ds cs n) n) (M, out)).2.length + 6 < 900000 →
    ∃ mp' cap' pk' cn' sn' av' lo' c sl, L_X8_tickOnce_63 ds cs cn0 (nI n) PP k (nI j) cn sn av lo cap mp pk nc ns = (nI old.length, cn', sn', av', lo', cap', mp', pk', nc + c, ns + sl) ∧
      SIM PP mp' pk' cn' ((old.drop j).foldl (mdl (nbF ds cs n) n) (M, out)).1 (old ++ ((old.drop j).foldl (mdl (nbF ds cs n) n) (M, out)).2) ∧ LC cap' cn' ∧ cap ≤ cap' ∧ cap' ≤ max cap (2 * (old.length + ((old.drop j).foldl (mdl (nbF ds cs n) n) (M, out)).2.length + 6)) ∧ sl + 2 * cap ≤ 2 * cap' ∧ 64 * c + cap ≤ cap' := by
  intro k
  induction k with
  | zero => intro j mp pk cap cn sn av lo nc ns M out hj hk; omega
  | succ k ih =>
    intro j mp pk cap cn sn av lo nc ns M out hj hk h hc hl
    show ∃ mp' cap' pk' cn' sn' av' lo' c sl, B_X8_tickOnce_63 ds cs cn0 (nI n) PP (L_X8_tickOnce_63 ds cs cn0 (nI n) PP k) (nI j) cn sn av lo cap mp pk nc ns = (nI old.length, cn', sn', av', lo', cap', mp', pk', nc + c, ns + sl) ∧ _
    unfold B_X8_tickOnce_63
    by_cases c1 : old.length ≤ j
    · have e : j = old.length := by omega
      subst e
      rw [h0, if_pos (Int32.le_refl _), List.drop_eq_nil_of_le (Nat.le_refl _)]
      exact ⟨mp, cap, pk, cn, sn, av, lo, 0, 0, rfl, h, hc, Nat.le_refl _, Nat.le_max_left _ _, by omega, by omega⟩
    · have hj2 : j < old.length := by omega
      rw [if_neg (by rw [h0, qI_le (by omega) (by omega)]; omega)]
      have hd : old.drop j = old[j] :: old.drop (j + 1) := List.drop_eq_getElem_cons hj2
      rw [hd, List.foldl_cons] at hl ⊢
      have hm := mdls_mono (nbF ds cs n) n (old.drop (j + 1)) (mdl (nbF ds cs n) n (M, out) old[j])
      have hm2 := mdl_mono (nbF ds cs n) n (M, out) old[j]
      have hm2 : out.length ≤ (mdl (nbF ds cs n) n (M, out) old[j]).2.length := hm2
      obtain ⟨mp1, cap1, pk1, cn1, sn1, av1, lo1, d1, s1, e1, g1, g2, g3, g4, g5, g6⟩ := deliver_spec sn hn av lo h hc hPG (by rw [List.length_append]; omega) (List.getElem?_eq_getElem hj2)
      rw [List.length_append] at g4
      generalize mdl (nbF ds cs n) n (M, out) old[j] = st at g1 hm hm2 hl ⊢
      obtain ⟨M1, out1⟩ := st
      have hm : out1.length ≤ ((old.drop (j + 1)).foldl (mdl (nbF ds cs n) n) (M1, out1)).2.length := hm
      have hm2 : out.length ≤ out1.length := hm2
      obtain ⟨mp2, cap2, pk2, cn2, sn2, av2, lo2, d2, s2, e2, q1, q2, q3, q4, q5, q6⟩ := ih (j + 1) mp1 pk1 cap1 cn1 sn1 av1 lo1 (nc + d1) (ns + s1) M1 out1 (by omega) (by omega) g1 g2 hl
      refine ⟨mp2, cap2, pk2, cn2, sn2, av2, lo2, d1 + d2, s1 + s2, ?_, q1, q2, by omega, by omega, by omega, by omega⟩
      rw [e1]
      rw [show K_X8_tickOnce_70 (nI j) cn sn av lo cap mp pk nc ns (L_X8_tickOnce_63 ds cs cn0 (nI n) PP k) (mp1, cap1, pk1, cn1, sn1, av1, lo1, d1, s1) = L_X8_tickOnce_63 ds cs cn0 (nI n) PP k (nI j + 1) cn1 sn1 av1 lo1 cap1 mp1 pk1 (nc + d1) (ns + s1) from rfl, qI_succ (by omega), e2, Nat.add_assoc, Nat.add_assoc]
theorem msl_len6 (nb : Nat → Nat → Bool) {n : Nat} (hn : n ≤ 6) (s : Nat) (p : PG) (ex : Nat) : (msl nb n s p ex).length ≤ 6 := by
  unfold msl
  rw [List.length_map]
  exact Nat.le_trans (List.length_filter_le _ _) (by rw [List.length_range]; exact hn)
theorem tick20_spec {ds cs : Nat → Int32} {n : Nat} (hn : n ≤ 6) (hcs : CSR_ cs) (tk : Int32) (old : List LT) :
    ∀ (k x : Nat) (mc cn sn md : Int32) (capE cap : Nat) (mp pk : Nat → Int32) (PP : List PG) (nc ns : Nat) (M : MP) (out : List LT), x ≤ n → n < x + k → SIM PP mp pk cn M (old ++ out) → LC cap cn → EC capE PP.length → PGX_ PP →
      (old ++ out).length + 6 * (n - x) + 6 < 900000 → PP.length + (n - x) ≤ 980000 →
    ∃ mc' cn' sn' md' capE' cap' mp' pk' PP' c sl, L_X8_tickOnce_20 ds cs (nI n) tk k (nI x) mc cn sn md capE cap mp pk PP nc ns = (nI n, mc', cn', sn', md', capE', cap', mp', pk', PP', nc + c, ns + sl) ∧
      SIM PP' mp' pk' cn' (((List.range n).drop x).foldl (mph1 (nbF ds cs n) (cstF cs) n (tk + 1)) (M, out)).1 (old ++ (((List.range n).drop x).foldl (mph1 (nbF ds cs n) (cstF cs) n (tk + 1)) (M, out)).2) ∧ LC cap' cn' ∧ EC capE' PP'.length ∧ PGX_ PP' ∧
      (∃ Q, PP' = PP ++ Q ∧ Q.length ≤ n - x) ∧ out.length ≤ (((List.range n).drop x).foldl (mph1 (nbF ds cs n) (cstF cs) n (tk + 1)) (M, out)).2.length ∧ (((List.range n).drop x).foldl (mph1 (nbF ds cs n) (cstF cs) n (tk + 1)) (M, out)).2.length ≤ out.length + 6 * (n - x) ∧
      cap' ≤ max cap (2 * (old.length + (((List.range n).drop x).foldl (mph1 (nbF ds cs n) (cstF cs) n (tk + 1)) (M, out)).2.length + 6)) ∧ capE' ≤ max capE (PP'.length + PP'.length / 2) ∧ CO cap cap' capE capE' PP PP' c sl := by
  intro k
  induction k with
  | zero => intro x mc cn sn md capE cap mp pk PP nc ns M out hx hk; omega
  | succ k ih =>
    intro x mc cn sn md capE cap mp pk PP nc ns M out hx hk h hc hE hPG hl hP
    show ∃ mc' cn' sn' md' capE' cap' mp' pk' PP' c sl, B_X8_tickOnce_20 ds cs (nI n) tk (L_X8_tickOnce_20 ds cs (nI n) tk k) (nI x) mc cn sn md capE cap mp pk PP nc ns = (nI n, mc', cn', sn', md', capE', cap', mp', pk', PP', nc + c, ns + sl) ∧ _
    unfold B_X8_tickOnce_20
    by_cases c1 : n ≤ x
    · have e : x = n := by omega
      subst e
      rw [if_pos ((qI_le (by omega) (by omega)).mpr (Nat.le_refl _)), List.drop_eq_nil_of_le (by rw [List.length_range]; exact Nat.le_refl _)]
      exact ⟨mc, cn, sn, md, capE, cap, mp, pk, PP, 0, 0, rfl, h, hc, hE, hPG, ⟨[], by simp, by simp⟩, Nat.le_refl _, by show out.length ≤ _; omega, Nat.le_max_left _ _, Nat.le_max_left _ _, CO.rf⟩
    · rw [if_neg (by rw [qI_le (by omega) (by omega)]; omega)]
      have hd : (List.range n).drop x = x :: (List.range n).drop (x + 1) := by
        rw [List.drop_eq_getElem_cons (by rw [List.length_range]; omega)]
        simp
      rw [hd, List.foldl_cons]
      have hx6 : x < 6 := by omega
      have hf := forgetF_spec hn hx6 (tk + 1) 20 h
      have hpg := SIM.page hf hx6 hx6
      unfold K_X8_tickOnce_39 K_X8_tickOnce_42 F_X8_ageOf
      rw [hpg]
      by_cases c2 : (tk + 1) - (mfor n M x 20 (tk + 1) x x).2.2.1 < 10
      · rw [if_pos c2]
        have em : mph1 (nbF ds cs n) (cstF cs) n (tk + 1) (M, out) x = (mfor n M x 20 (tk + 1), out) := if_pos c2
        rw [em, qI_succ (by omega)]
        obtain ⟨mc', cn', sn', md', capE', cap', mp', pk', PP', c, sl, e1, g⟩ := ih (x + 1) mc cn sn md capE cap (F_X8_forget PP mp (nI n) (tk + 1) (nI x) 20) pk PP (((nc + 0) + 0) + 0) (((ns + 0) + 0) + 0) (mfor n M x 20 (tk + 1)) out (by omega) (by omega) hf hc hE hPG (by omega) (by omega)
        obtain ⟨g1, g2, g3, g4, ⟨Q, g5, g6⟩, g7, g8, g9, g10, g11⟩ := g
        exact ⟨mc', cn', sn', md', capE', cap', mp', pk', PP', c, sl, e1, g1, g2, g3, g4, ⟨Q, g5, by omega⟩, g7, by omega, g9, g10, g11⟩
      · rw [if_neg c2]
        have em : mph1 (nbF ds cs n) (cstF cs) n (tk + 1) (M, out) x = mren (nbF ds cs n) (cstF cs) n (tk + 1) (mfor n M x 20 (tk + 1), out) x := if_neg c2
        rw [em]
        obtain ⟨capE1, mc1, mp1, cap1, pk1, cn1, sn1, d1, s1, e1, r1, r2, r3, r4, r5, r6⟩ := renew_spec mc ds cs sn hn hx6 (tk + 1) md hf hc hE (by omega) (by omega)
        have hpx := renew_pgx capE mc ds (F_X8_forget PP mp (nI n) (tk + 1) (nI x) 20) pk cap cn sn (nI n) (tk + 1) md (a1 := nI x) hPG hcs (by rw [nI_toInt (by omega)]; omega) (by rw [nI_toInt (by omega)]; omega) (by omega)
        rw [e1] at hpx ⊢
        generalize hp : mnew (nbF ds cs n) (cstF cs) n (tk + 1) (mfor n M x 20 (tk + 1)) x = p at e1 r1 r6 hpx ⊢
        have hpx1 : PGX_ (PP ++ [p]) := hpx.1
        have el : (PP ++ [p]).length = PP.length + 1 := by rw [List.length_append]; rfl
        have r1 : SIM (PP ++ [p]) mp1 pk1 cn1 (mren (nbF ds cs n) (cstF cs) n (tk + 1) (mfor n M x 20 (tk + 1), out) x).1 (old ++ (mren (nbF ds cs n) (cstF cs) n (tk + 1) (mfor n M x 20 (tk + 1), out) x).2) := by
          have z : (mren (nbF ds cs n) (cstF cs) n (tk + 1) (mfor n M x 20 (tk + 1), old ++ out) x).2 = old ++ (mren (nbF ds cs n) (cstF cs) n (tk + 1) (mfor n M x 20 (tk + 1), out) x).2 := List.append_assoc _ _ _
          rw [← z]
          exact r1
        have hlen : (mren (nbF ds cs n) (cstF cs) n (tk + 1) (mfor n M x 20 (tk + 1), out) x).2.length ≤ out.length + 6 ∧ out.length ≤ (mren (nbF ds cs n) (cstF cs) n (tk + 1) (mfor n M x 20 (tk + 1), out) x).2.length := by
          show (out ++ msl _ n x _ 99).length ≤ out.length + 6 ∧ out.length ≤ (out ++ msl _ n x _ 99).length
          rw [List.length_append]
          exact ⟨Nat.add_le_add_left (msl_len6 _ hn x _ 99) _, Nat.le_add_right _ _⟩
        generalize mren (nbF ds cs n) (cstF cs) n (tk + 1) (mfor n M x 20 (tk + 1), out) x = st at r1 hlen ⊢
        obtain ⟨M1, out1⟩ := st
        have hlen : out1.length ≤ out.length + 6 ∧ out.length ≤ out1.length := hlen
        rw [List.length_append] at hl
        obtain ⟨mc', cn', sn', md', capE', cap', mp', pk', PP', c, sl, e2, g⟩ := ih (x + 1) mc1 cn1 sn1 (md + 1) capE1 cap1 mp1 pk1 (PP ++ [p]) ((((nc + 0) + 0) + 0) + d1) ((((ns + 0) + 0) + 0) + s1) M1 out1 (by omega) (by omega) r1 r2 (by rw [el]; exact r3) hpx1 (by rw [List.length_append]; omega) (by omega)
        obtain ⟨g1, g2, g3, g4, ⟨Q, g5, g6⟩, g7, g8, g9, g10, g11⟩ := g
        rw [List.length_append] at r4
        have hPl : PP'.length = PP.length + 1 + Q.length := by rw [g5, List.length_append, el]
        refine ⟨mc', cn', sn', md', capE', cap', mp', pk', PP', d1 + c, s1 + sl, ?_, g1, g2, g3, g4, ⟨p :: Q, by rw [g5, List.append_assoc]; rfl, by show Q.length + 1 ≤ n - x; omega⟩, by omega, by omega, by omega, by omega, CO.tr r6 g11⟩
        rw [show K_X8_tickOnce_52 (nI x) mc cn sn md capE cap mp pk PP nc ns (L_X8_tickOnce_20 ds cs (nI n) tk k) (capE1, mc1, mp1, cap1, pk1, cn1, sn1, md + 1, PP ++ [p], d1, s1) = L_X8_tickOnce_20 ds cs (nI n) tk k (nI x + 1) mc1 cn1 sn1 (md + 1) capE1 cap1 mp1 pk1 (PP ++ [p]) ((((nc + 0) + 0) + 0) + d1) ((((ns + 0) + 0) + 0) + s1) from rfl, qI_succ (by omega), e2]
        simp only [Nat.add_zero, Nat.add_assoc]
