/-! LETTERS LOST, LETTERS OF ONE SURVEYOR TAKEN OUT -/
theorem lose_spec {PP : List PG} {mp pk : Nat → Int32} {cn : Int32} (lo : Int32) {M : MP} {l : LT} {out : List LT} (h : SIM PP mp pk cn M (l :: out)) : ∃ og pk' cn', F_X8_loseFirst PP pk cn lo = (og, pk', cn', lo + 1) ∧ SIM PP mp pk' cn' M out := by
  obtain ⟨pk', cn', e, g⟩ := first_spec (old := [l]) (out := out) h
  have e : F_X5_removeFirst pk cn 1 = (pk', cn') := e
  unfold F_X8_loseFirst
  rw [e]
  exact ⟨_, _, _, rfl, g⟩
/-- letters that are not of a surveyor -/
def kp (s : Nat) (l : LT) : Bool := decide (l.1 ≠ s ∧ l.2.1 ≠ s)
theorem has5 {m j : Nat} (hm : m < 2 ^ 31) (hj : j < m) : F_X5_has (nI m) (nI j) = 1 := by
  unfold F_X5_has
  rw [if_neg (by rw [Int32.lt_iff_toInt_lt, nI_toInt (by omega), i0]; omega), if_neg (by rw [qI_le (by omega) (by omega)]; omega)]
theorem rem4 {PP : List PG} {pk0 : Nat → Int32} {lt : List LT} {s : Nat} (hs : s < 6) (hPl : PP.length ≤ 2000000) (hl : lt.length < 900000) (hL : ∀ k : Nat, ∀ l : LT, lt[k]? = some l → LTR PP (pk0 k) l) : ∀ (k j : Nat) (pk : Nat → Int32), j ≤ lt.length → lt.length < j + k → (∀ i, j ≤ i → pk i = pk0 i) → (∀ i : Nat, ∀ l : LT, ((lt.take j).filter (kp s))[i]? = some l → LTR PP (pk i) l) →
    ∃ pk', L_X5_removeOf_4 (nI lt.length) (nI s) k (nI ((lt.take j).filter (kp s)).length) (nI j) pk = (nI (lt.filter (kp s)).length, nI lt.length, pk') ∧ ∀ i : Nat, ∀ l : LT, (lt.filter (kp s))[i]? = some l → LTR PP (pk' i) l := by
  intro k
  induction k with
  | zero => intro j pk h1 h2; omega
  | succ k ih =>
    intro j pk h1 h2 h3 h4
    rw [show L_X5_removeOf_4 (nI lt.length) (nI s) (k + 1) (nI ((lt.take j).filter (kp s)).length) (nI j) pk = B_X5_removeOf_4 (nI lt.length) (nI s) (L_X5_removeOf_4 (nI lt.length) (nI s) k) (nI ((lt.take j).filter (kp s)).length) (nI j) pk from rfl]
    unfold B_X5_removeOf_4
    by_cases c : j = lt.length
    · subst c
      rw [if_pos (by rw [qI_le (by omega) (by omega)]; omega)]
      rw [List.take_length] at h4 ⊢
      exact ⟨pk, rfl, h4⟩
    · have cle : ¬ nI lt.length ≤ nI j := by rw [qI_le (by omega) (by omega)]; omega
      have hj : j < lt.length := by omega
      rw [if_neg cle]
      have hget : lt[j]? = some lt[j] := List.getElem?_eq_getElem hj
      have hr := hL j lt[j] hget
      obtain ⟨t1, t2, _⟩ := LTR.send hr hPl
      have l1 := hr.1
      have l2 := hr.2.1
      have hflen : ((lt.take j).filter (kp s)).length ≤ j := by
        have := List.length_filter_le (kp s) (lt.take j)
        rw [List.length_take] at this
        omega
      have etk : lt.take (j + 1) = lt.take j ++ [lt[j]] := by rw [List.take_succ, hget]; rfl
      have es : F_X5_senderOf pk (nI lt.length) (nI j) = nI lt[j].1 := by
        unfold F_X5_senderOf
        rw [has5 (by omega) hj, if_neg (by decide), qI_ix (by omega), h3 j (Nat.le_refl _)]
        exact t1
      have er : F_X5_receiverOf pk (nI lt.length) (nI j) = nI lt[j].2.1 := by
        unfold F_X5_receiverOf
        rw [has5 (by omega) hj, if_neg (by decide), qI_ix (by omega), h3 j (Nat.le_refl _)]
        exact t2
      rw [es, er]
      have skip : kp s lt[j] = false → ∃ pk', L_X5_removeOf_4 (nI lt.length) (nI s) k (nI ((lt.take j).filter (kp s)).length) (nI (j + 1)) pk = (nI (lt.filter (kp s)).length, nI lt.length, pk') ∧ ∀ i : Nat, ∀ l : LT, (lt.filter (kp s))[i]? = some l → LTR PP (pk' i) l := by
        intro hk
        have e2 : (lt.take (j + 1)).filter (kp s) = (lt.take j).filter (kp s) := by
          rw [etk, List.filter_append, List.filter_cons_of_neg (by rw [hk]; decide), List.filter_nil, List.append_nil]
        have z := ih (j + 1) pk (by omega) (by omega) (fun i hi => h3 i (by omega)) (by rw [e2]; exact h4)
        rw [e2] at z
        exact z
      by_cases c1 : lt[j].1 = s
      · rw [if_pos (by rw [c1]), qI_succ (by omega)]
        exact skip (by unfold kp; exact decide_eq_false (fun z => z.1 c1))
      · rw [if_neg (by rw [qI_inj (by omega) (by omega)]; exact c1)]
        by_cases c2 : lt[j].2.1 = s
        · rw [if_pos (by rw [c2]), qI_succ (by omega)]
          exact skip (by unfold kp; exact decide_eq_false (fun z => z.2 c2))
        · rw [if_neg (by rw [qI_inj (by omega) (by omega)]; exact c2), qI_succ (by omega), qI_succ (by omega), qI_ix (by omega), qI_ix (by omega)]
          have hk : kp s lt[j] = true := by unfold kp; exact decide_eq_true ⟨c1, c2⟩
          have e2 : (lt.take (j + 1)).filter (kp s) = (lt.take j).filter (kp s) ++ [lt[j]] := by
            rw [etk, List.filter_append, List.filter_cons_of_pos hk, List.filter_nil]
          have z := ih (j + 1) (upd pk ((lt.take j).filter (kp s)).length (pk j)) (by omega) (by omega) (fun i hi => by rw [updA, if_neg (by omega)]; exact h3 i (by omega)) (by
            rw [e2]
            intro i l hi
            rw [updA]
            by_cases ci : i = ((lt.take j).filter (kp s)).length
            · rw [if_pos ci]
              rw [ci, List.getElem?_append_right (Nat.le_refl _), Nat.sub_self] at hi
              have : lt[j] = l := by simpa using hi
              rw [← this, h3 j (Nat.le_refl _)]
              exact hr
            · rw [if_neg ci]
              have hlt : i < ((lt.take j).filter (kp s)).length := by
                have := (List.getElem?_eq_some_iff.mp hi).1
                rw [List.length_append, List.length_singleton] at this
                omega
              rw [List.getElem?_append_left hlt] at hi
              exact h4 i l hi)
          rw [e2, List.length_append, List.length_singleton] at z
          exact z
theorem remove_spec {PP : List PG} {mp pk : Nat → Int32} {cn : Int32} {M : MP} {lt : List LT} (h : SIM PP mp pk cn M lt) (hl : lt.length < 900000) {s : Nat} (hs : s < 6) : ∃ cnt pk' cn', F_X5_removeOf pk cn (nI s) = (cnt, pk', cn') ∧ SIM PP mp pk' cn' M (lt.filter (kp s)) := by
  have hcn := h.cnI
  have hflen := List.length_filter_le (kp s) lt
  obtain ⟨pk', e, g⟩ := rem4 (PP := PP) (pk0 := pk) hs h.1.2.1 hl h.2.2.2.2 ((((cn : Int32).toInt - (0 : Int32).toInt).toNat + 1)) 0 pk (Nat.zero_le _) (by rw [hcn, nI_toInt (by omega), i0]; omega) (fun _ _ => rfl) (fun i l hi => by simp at hi)
  unfold F_X5_removeOf
  rw [show nI ((lt.take 0).filter (kp s)).length = (0 : Int32) from by simp; rfl, show nI 0 = (0 : Int32) from rfl, ← hcn] at e
  rw [e]
  refine ⟨cn - nI (lt.filter (kp s)).length, pk', nI (lt.filter (kp s)).length, rfl, h.1, h.2.1, h.2.2.1, nI_toInt (by omega), g⟩
