/-! TWO STATES WITH THE SAME SURVEY -/
abbrev CR : Type := SV × SV × HV × (Nat → Int32) × Int32 × Int32 × Nat × (Nat → Int32) × Int32 × Int32 × Nat × Int32 × Int32 × Int32 × Int32
/-- what queries leave as it is -/
def core : MS → CR
  | (now, _, sv, hv, _, _, sg, ln, pl, ch, nu, _, _, _, _, isv, lf, kk, kr, kd, kr2, kd2, _, _, _) => (now, sv, hv, sg, ln, pl, ch, nu, isv, lf, kk, kr, kd, kr2, kd2)
def arch : MS → List PG
  | ((_, _, _, _, _, _, _, _, _, _, _, _), (_, _, _, _, _, _, _, _, _, _, _, _), (_, _, _, _, _, _, _, _, _, _, _, _), (_, _, _, _, _, _, _, _, _, _, _, _, _, _), _, _, _, _, _, _, _, _, _, _, _, _, _, _, _, _, _, _, _, _, PP) => PP
def tabs : MS → (Nat → Int32) × (Nat → Int32)
  | ((_, _, _, _, _, _, _, _, _, _, _, _), (_, _, _, _, _, _, _, _, _, _, _, _), (_, _, _, _, _, _, _, _, _, _, _, _), (_, _, _, _, _, _, _, _, _, _, _, _, _, _), wc, wd, _, _, _, _, _, _, _, _, _, _, _, _, _, _, _, _, _, _, _) => (wc, wd)
/-- the potentials: slots, cells -/
def PHI : MS → Nat
  | ((_, _, _, _, _, _, _, _, _, _, _, _), (_, _, _, _, cap_t, _, _, _, _, _, _, _), (_, _, _, _, _, _, _, _, _, _, _, _), (_, _, _, _, _, _, _, _, _, _, _, _, _, _), _, _, _, _, _, _, _, _, capw, _, _, _, _, _, _, _, _, _, capE, _, PP) => 2 * capw + 2 * cap_t + 4 * capE + 10 * PP.length
def PHC : MS → Nat
  | ((_, _, _, _, _, _, _, _, _, _, _, _), (_, _, _, _, cap_t, _, _, _, _, _, _, _), (_, _, _, _, _, _, _, _, _, _, _, _), (_, _, _, _, _, _, _, _, _, _, _, _, _, _), _, _, _, _, _, _, _, _, capw, _, _, _, _, _, _, _, _, _, capE, _, PP) => 320 * capw + 5 * cap_t + 64 * capE + 640 * PP.length
/-- the most letters -/
def LBB : Nat := 72420
/-- the same survey, whatever stands beyond its letters -/
def EQN (S T : SV) : Prop := S.1 = T.1 ∧ S.2.1 = T.2.1 ∧ S.2.2.1 = T.2.2.1 ∧ (∀ i, i < ix S.2.2.2.2.2.1 → S.2.2.2.1 i = T.2.2.2.1 i) ∧ S.2.2.2.2.2.1 = T.2.2.2.2.2.1 ∧ S.2.2.2.2.2.2 = T.2.2.2.2.2.2
def SGD (P : List PG) (S : SV) : Prop := ∃ M lt N, SIM P S.2.2.1 S.2.2.2.1 S.2.2.2.2.2.1 M lt ∧ S.2.2.2.2.2.2.2.1 = nI N ∧ N ≤ 6 ∧ CSR_ S.2.1 ∧ CSY S.2.1 ∧ Zf 6 S.1 ∧ Zf 36 S.2.1 ∧ LB LBB (nbF S.1 S.2.1 N) (cstF S.2.1) N 99 S.2.2.2.2.2.2.2.2.1 M lt
def XL (Bd : Nat) : MS → Prop
  | ((_, _, _, _, _, _, _, _, _, _, _, _), (ds_t, cs_t, mp_t, _, cap_t, _, _, _, _, _, _, _), (_, _, _, _, _, _, _, _, _, _, _, _), (_, _, _, _, _, _, _, _, _, _, _, _, _, _), _, _, _, _, _, _, _, _, capw, _, wn, _, _, _, _, _, _, _, capE, _, PP) => PP.length ≤ Bd ∧ PGX_ PP ∧ EC capE PP.length ∧ capE ≤ 10 + PP.length + PP.length / 2 ∧ 64 ≤ cap_t ∧ cap_t ≤ 4 * LBB + 12 ∧ Zf 6 ds_t ∧ Zf 36 cs_t ∧ Zf 36 mp_t ∧ capw ≤ 500 ∧ wn.toInt ≤ 198
def IQ (K : CR) (P0 : List PG) (Bd : Nat) (M : MS) : Prop := core M = K ∧ (∃ Q, arch M = P0 ++ Q) ∧ Zf 36 (tabs M).1 ∧ Zf 6 (tabs M).2 ∧ XL Bd M ∧ Bd ≤ 900000
def PR (K1 K2 : CR) (P0 : List PG) (Bd : Nat) (M1 M2 : MS) : Prop := IQ K1 P0 Bd M1 ∧ IQ K2 P0 Bd M2 ∧ EQN K1.1 K2.1 ∧ SGD P0 K1.1
def CS {α : Type} (c s : Nat) (M : MS) (r : α × MS × Nat × Nat) : Prop := r.2.2.2 + PHI M ≤ s + PHI r.2.1 ∧ 320 * r.2.2.1 + PHC M ≤ 320 * c + PHC r.2.1
def RQ {α : Type} (K1 K2 : CR) (P0 : List PG) (Bd c s : Nat) (M1 M2 : MS) (r1 r2 : α × MS × Nat × Nat) : Prop := r1.1 = r2.1 ∧ PR K1 K2 P0 Bd r1.2.1 r2.2.1 ∧ CS c s M1 r1 ∧ CS c s M2 r2
theorem pgd_app {P Q : List PG} {k : Nat} (h : k < P.length) : pgd (P ++ Q) k = pgd P k := by
  unfold pgd
  simp [List.getD_eq_getElem?_getD, List.getElem?_append_left h]
theorem num_app {P Q : List PG} {v : Int32} (h0 : 0 ≤ v.toInt) (h1 : v.toInt < P.length) (hl : (P ++ Q).length ≤ 2000000) : F_X1_numbered (P ++ Q) v = ix v := by
  rw [List.length_append] at hl
  exact num_in h0 (by rw [List.length_append]; omega) (by rw [List.length_append]; exact hl)
theorem OB_of {P0 Q1 Q2 : List PG} {mp pk1 pk2 : Nat → Int32} {cn : Int32} {M : MP} {lt : List LT} (h : SIM P0 mp pk1 cn M lt) (hpk : ∀ i, i < ix cn → pk1 i = pk2 i) (l1 : (P0 ++ Q1).length ≤ 2000000) (l2 : (P0 ++ Q2).length ≤ 2000000) : OB (P0 ++ Q1) (P0 ++ Q2) mp pk1 pk2 cn := by
  obtain ⟨hP, hm, hM, hc, hL⟩ := h
  have hin : ∀ a b, ix (mp (ix (F_X8_pair a b))) < P0.length := fun a b => by
    have z1 := (hm (ix (F_X8_pair a b))).1
    have z2 := (hm (ix (F_X8_pair a b))).2.1
    rw [ix_toNat]
    omega
  have e1 : ∀ a b, F_X8_pageIn (P0 ++ Q1) mp a b = ix (mp (ix (F_X8_pair a b))) := fun a b => num_app (hm _).1 (hm _).2.1 l1
  have e2 : ∀ a b, F_X8_pageIn (P0 ++ Q2) mp a b = ix (mp (ix (F_X8_pair a b))) := fun a b => num_app (hm _).1 (hm _).2.1 l2
  have hpl : ∀ a, ¬ F_X5_has cn a = 0 → pk1 (ix a) = pk2 (ix a) ∧ ∃ v : Int32, v = pk1 (ix a) / 36 ∧ 0 ≤ v.toInt ∧ v.toInt < P0.length := by
    intro a ha
    have hlt : ix a < ix cn := by
      unfold F_X5_has at ha
      by_cases c0 : a < 0
      · rw [if_pos c0] at ha; exact absurd rfl ha
      · rw [if_neg c0] at ha
        by_cases c1 : cn ≤ a
        · rw [if_pos c1] at ha; exact absurd rfl ha
        · have := f_nlt c0
          have := f_nle c1
          rw [ix_toNat, ix_toNat]
          rw [i0] at *
          omega
    refine ⟨hpk _ hlt, _, rfl, ?_⟩
    have hlt2 : ix a < lt.length := by
      rw [ix_toNat] at hlt ⊢
      rw [ix_toNat] at hlt
      omega
    obtain ⟨q1, q2, i, hi, hv, _⟩ := hL (ix a) (lt[ix a]) (List.getElem?_eq_getElem hlt2)
    rw [dvI (by omega) (by rw [i36]; decide), i36]
    constructor <;> omega
  refine ⟨fun a b => by rw [e1, e2], fun a b => by rw [e1, pgd_app (hin a b), pgd_app (hin a b)], fun a => ?_, fun a => ?_, fun a => ?_⟩
  · unfold F_X5_senderOf
    by_cases c : F_X5_has cn a = 0
    · simp only [c, if_true]
    · rw [if_neg c, if_neg c, (hpl a c).1]
  · unfold F_X5_receiverOf
    by_cases c : F_X5_has cn a = 0
    · simp only [c, if_true]
    · rw [if_neg c, if_neg c, (hpl a c).1]
  · have key : ∀ Q : List PG, (P0 ++ Q).length ≤ 2000000 → ∀ pk : Nat → Int32, (∀ i, i < ix cn → pk1 i = pk i) → pgd (P0 ++ Q) (F_X8_pageOfLetter (P0 ++ Q) pk cn a) = pgd P0 (ix (F_X5_pageOf pk1 cn a)) := by
      intro Q hQ pk hk
      unfold F_X8_pageOfLetter F_X5_pageOf
      by_cases c : F_X5_has cn a = 0
      · rw [if_pos c, if_pos c, num_app (by decide) (by rw [i0]; omega) hQ, pgd_app (by show 0 < P0.length; exact hP.1)]
      · obtain ⟨_, v, ev, v0, v1⟩ := hpl a c
        have ek : pk (ix a) = pk1 (ix a) := by
          have hlt : ix a < ix cn := by
            unfold F_X5_has at c
            by_cases c0 : a < 0
            · rw [if_pos c0] at c; exact absurd rfl c
            · rw [if_neg c0] at c
              by_cases c1 : cn ≤ a
              · rw [if_pos c1] at c; exact absurd rfl c
              · have := f_nlt c0
                have := f_nle c1
                rw [ix_toNat, ix_toNat]
                rw [i0] at *
                omega
          exact (hk _ hlt).symm
        rw [if_neg c, if_neg c, ek, ← ev, num_app v0 v1 hQ, pgd_app (by rw [ix_toNat]; omega)]
    rw [key Q2 l2 pk2 hpk, key Q1 l1 pk1 (fun _ _ => rfl)]
