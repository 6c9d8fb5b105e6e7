/-! A LETTER IS DELIVERED -/
theorem og_r {PP : List PG} (h : PGX_ PP) (i : Nat) : (pgd PP i).1 = nI (og_ (pgd PP i)) ∧ og_ (pgd PP i) < 6 := by
  obtain ⟨h1, h2⟩ := (h i).1
  have e : (og_ (pgd PP i) : Int) = (pgd PP i).1.toInt := by unfold og_; omega
  exact ⟨qI_eq (by omega) e.symm, by omega⟩
theorem deliver_spec {PP : List PG} {ds cs mp pk : Nat → Int32} {cap : Nat} {cn : Int32} (sn : Int32) {n : Nat} (hn : n ≤ 6) (av lo : Int32) {M : MP} {old out : List LT} (h : SIM PP mp pk cn M (old ++ out)) (hc : LC cap cn) (hPG : PGX_ PP) (hl : (old ++ out).length + 6 < 900000) {k : Nat} {l : LT} (hk : old[k]? = some l) :
    ∃ mp' cap' pk' cn' sn' av' lo' c sl, F_X8_deliver PP ds cs mp pk cap cn sn (nI n) av lo (nI k) = (mp', cap', pk', cn', sn', av', lo', c, sl) ∧
      SIM PP mp' pk' cn' (mdl (nbF ds cs n) n (M, out) l).1 (old ++ (mdl (nbF ds cs n) n (M, out) l).2) ∧ LC cap' cn' ∧ cap ≤ cap' ∧ cap' ≤ max cap (2 * ((old ++ out).length + 6)) ∧ sl + 2 * cap ≤ 2 * cap' ∧ 64 * c + cap ≤ cap' := by
  have hk2 : (old ++ out)[k]? = some l := by rw [List.getElem?_append_left (List.getElem?_eq_some_iff.mp hk).1]; exact hk
  have hlen : k < (old ++ out).length := (List.getElem?_eq_some_iff.mp hk2).1
  obtain ⟨t1, t2, t3, t4, t5⟩ := h.letter hk2
  obtain ⟨s, r, p⟩ := l
  have hr := t5
  obtain ⟨u1, u2, i, u3, u4, u5⟩ := t5
  have u1 : s < 6 := u1
  have u2 : r < 6 := u2
  have t1 : F_X5_senderOf pk cn (nI k) = nI s := t1
  have t2 : F_X5_receiverOf pk cn (nI k) = nI r := t2
  have t4 : pgd PP (F_X8_pageOfLetter PP pk cn (nI k)) = p := t4
  obtain ⟨v1, v2, v3, v4, v5, v6⟩ := hr.send h.1.2.1
  have v4 : pgd PP (F_X1_numbered PP (pk k / 36)) = p := v4
  rw [show F_X8_deliver PP ds cs mp pk cap cn sn (nI n) av lo (nI k) = K_X8_deliver_21 PP ds cs mp pk cap cn sn (nI n) av lo (nI k) (F_X5_senderOf pk cn (nI k)) (F_X5_receiverOf pk cn (nI k)) (F_X8_areNeighbours ds cs (nI n) (F_X5_senderOf pk cn (nI k)) (F_X5_receiverOf pk cn (nI k))) from rfl, t1, t2, nei_nI hn u1 u2]
  obtain ⟨o1, o2⟩ := og_r hPG i
  have u5 : p = pgd PP i := u5
  rw [← u5] at o1 o2
  unfold K_X8_deliver_21 mdl
  by_cases c1 : nbF ds cs n s r = true
  · rw [if_pos c1, if_neg (show ¬ (1 : Int32) = 0 by decide), if_neg (show ¬ nbF ds cs n (s, r, p).1 (s, r, p).2.1 = false from fun z => by rw [show nbF ds cs n (s, r, p).1 (s, r, p).2.1 = nbF ds cs n s r from rfl, c1] at z; cases z)]
    unfold K_X8_deliver_50
    rw [t4]
    by_cases c2 : og_ p = r
    · rw [if_pos (by rw [o1, c2]), if_pos (show og_ (s, r, p).2.2 = (s, r, p).2.1 from c2)]
      exact ⟨_, _, _, _, _, _, _, _, _, rfl, h, hc, Nat.le_refl _, Nat.le_max_left _ _, by omega, by omega⟩
    · rw [if_neg (fun z => c2 ((qI_inj (by omega) (by omega)).mp (o1.symm.trans z))), if_neg (show ¬ og_ (s, r, p).2.2 = (s, r, p).2.1 from c2)]
      unfold K_X8_deliver_71
      rw [o1, ixpair_nI u2 o2, num_in (h.2.1 _).1 (h.2.1 _).2.1 h.1.2.1]
      have hMr : pgd PP (ix (mp (6 * r + og_ p))) = M r (og_ p) := by rw [h.2.2.1, if_pos ⟨u2, o2⟩]
      unfold K_X8_deliver_87
      rw [t4, hMr]
      by_cases c3 : p.2.1 ≤ (M r (og_ p)).2.1
      · rw [if_pos c3]
        have c3' : ¬ (M r (og_ p)).2.1 < p.2.1 := Int32.not_lt.mpr c3
        rw [if_neg (show ¬ ((M, out).1 (s, r, p).2.1 (og_ (s, r, p).2.2)).2.1 < (s, r, p).2.2.2.1 from c3')]
        by_cases c4 : (M r (og_ p)).2.1 ≤ p.2.1
        · rw [if_pos c4, if_neg (show ¬ (s, r, p).2.2.2.1 < ((M, out).1 (s, r, p).2.1 (og_ (s, r, p).2.2)).2.1 from Int32.not_lt.mpr c4)]
          exact ⟨_, _, _, _, _, _, _, _, _, rfl, h, hc, Nat.le_refl _, Nat.le_max_left _ _, by omega, by omega⟩
        · rw [if_neg c4, if_pos (show (s, r, p).2.2.2.1 < ((M, out).1 (s, r, p).2.1 (og_ (s, r, p).2.2)).2.1 from Int32.not_le.mp c4), ixpair_nI u2 o2]
          obtain ⟨cap', pk', cn', c', sl', e1, g1, g2, g3, g4, g5, g6⟩ := put_spec sn h hc (by omega) u2 u1 (h.2.1 (6 * r + og_ p)).1 (h.2.1 (6 * r + og_ p)).2.1
          rw [hMr, List.append_assoc] at g1
          rw [e1]
          refine ⟨mp, cap', pk', cn', sn + 1, av + 1, lo, c', sl', ?_, g1, g2, g3, by omega, g5, g6⟩
          show (mp, cap', pk', cn', sn + 1, av + 1, lo, ((((((0 + 0) + 0) + 0) + 0) + 0) + 0) + c', ((((((0 + 0) + 0) + 0) + 0) + 0) + 0) + sl') = _
          simp only [Nat.zero_add, Nat.add_zero]
      · rw [if_neg c3, if_pos (show ((M, out).1 (s, r, p).2.1 (og_ (s, r, p).2.2)).2.1 < (s, r, p).2.2.2.1 from Int32.not_le.mp c3), t3]
        have h1 := SIM.setmp h u2 o2 v5 v6
        rw [show pgd PP (ix (pk k / 36)) = p from by rw [← v4, num_in v5 v6 h.1.2.1]] at h1
        unfold K_X8_deliver_116
        rw [ixpair_nI u2 o2, pk_us]
        obtain ⟨cap', pk', cn', sn', c', sl', e1, g1, g2, g3, g4, g5, g6⟩ := sendTo_spec sn ds cs hn u2 v5 v6 s (nI s) (fun o ho => qI_inj (by omega) (by omega)) h1 hc hl
        rw [show pgd PP (ix (pk k / 36)) = p from by rw [← v4, num_in v5 v6 h.1.2.1], List.append_assoc] at g1
        rw [e1]
        refine ⟨upd mp (6 * r + og_ p) (pk k / 36), cap', pk', cn', sn', av + 1, lo, c', sl', ?_, g1, g2, g3, g4, g5, g6⟩
        rw [show K_X8_deliver_130 mp av lo (F_X8_pair (nI r) (nI (og_ p))) (pk k / 36) (cap', pk', cn', sn', c', sl') = (upd mp (ix (F_X8_pair (nI r) (nI (og_ p)))) (pk k / 36), cap', pk', cn', sn', av + 1, lo, (((((((0 + 0) + 0) + 0) + 0) + 0) + 0) + 0) + c', (((((((0 + 0) + 0) + 0) + 0) + 0) + 0) + 0) + sl') from rfl, ixpair_nI u2 o2]
        simp only [Nat.zero_add, Nat.add_zero]
  · have c1' : nbF ds cs n s r = false := by cases z : nbF ds cs n s r with | true => exact absurd z c1 | false => rfl
    rw [if_neg c1, if_pos rfl, if_pos (show nbF ds cs n (s, r, p).1 (s, r, p).2.1 = false from c1')]
    exact ⟨_, _, _, _, _, _, _, _, _, rfl, h, hc, Nat.le_refl _, Nat.le_max_left _ _, by omega, by omega⟩
