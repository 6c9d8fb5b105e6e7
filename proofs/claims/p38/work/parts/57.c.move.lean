/-! A SURVEYOR MOVED TO ANOTHER DISTRICT -/
def mmst (nb : Nat → Nat → Bool) (cst : Nat → Nat → Int32) (n : Nat) (tk : Int32) (cs : Nat → Int32) (s : Nat) (st : MP × List LT) (x : Nat) : MP × List LT :=
  if x = s ∨ ¬ cs (6 * s + x) ≤ 0 then mren nb cst n tk st x else st
def mmvL (nb : Nat → Nat → Bool) (cst : Nat → Nat → Int32) (n : Nat) (tk : Int32) (cs : Nat → Int32) (s : Nat) : Nat → Nat → MP × List LT → MP × List LT
  | 0, _, st => st
  | k + 1, x, st => if n ≤ x then st else mmvL nb cst n tk cs s k (x + 1) (mmst nb cst n tk cs s st x)
theorem move49 {ds cs : Nat → Int32} {n s : Nat} (hn : n ≤ 6) (hs : s < n) (dv : Int32) (hcs : CSR_ cs) (hS : CSY cs) (tk : Int32) : ∀ (k x : Nat) (mc cn sn md : Int32) (capE cap : Nat) (mp pk : Nat → Int32) (PP : List PG) (nc ns : Nat) (M : MP) (lt : List LT), x ≤ n → n < x + k → SVS mp pk cap cn capE PP M lt → lt.length + 5 * (n - x) + 6 < 900000 → PP.length + (n - x) ≤ 900000 →
    ∃ mc' cn' sn' md' capE' cap' mp' pk' PP' c sl, L_X8_moveTo_49 ds cs (nI n) tk (nI s) dv k (nI x) mc cn sn md capE cap mp pk PP nc ns = (nI n, mc', cn', sn', md', capE', cap', mp', pk', PP', nc + c, ns + sl) ∧
      SVS mp' pk' cap' cn' capE' PP' (mmvL (nbF (upd ds s dv) cs n) (cstF cs) n tk cs s k x (M, lt)).1 (mmvL (nbF (upd ds s dv) cs n) (cstF cs) n tk cs s k x (M, lt)).2 ∧ cap' ≤ max cap (2 * (lt.length + 5 * (n - x) + 6)) ∧ (∃ Q, PP' = PP ++ Q ∧ Q.length ≤ n - x) ∧ CO cap cap' capE capE' PP PP' c sl := by
  intro k
  induction k with
  | zero => intro x mc cn sn md capE cap mp pk PP nc ns M lt h1 h2; omega
  | succ k ih =>
    intro x mc cn sn md capE cap mp pk PP nc ns M lt h1 h2 h hl hP
    rw [show L_X8_moveTo_49 ds cs (nI n) tk (nI s) dv (k + 1) (nI x) mc cn sn md capE cap mp pk PP nc ns = B_X8_moveTo_49 ds cs (nI n) tk (nI s) dv (L_X8_moveTo_49 ds cs (nI n) tk (nI s) dv k) (nI x) mc cn sn md capE cap mp pk PP nc ns from rfl]
    unfold B_X8_moveTo_49 mmvL
    by_cases c : n ≤ x
    · have ex : x = n := by omega
      subst ex
      rw [if_pos (by rw [qI_le (by omega) (by omega)]; omega), if_pos c]
      exact ⟨mc, cn, sn, md, capE, cap, mp, pk, PP, 0, 0, rfl, h, by omega, ⟨[], (List.append_nil _).symm, by simp⟩, CO.rf⟩
    · have cle : ¬ nI n ≤ nI x := by rw [qI_le (by omega) (by omega)]; omega
      rw [if_neg cle, if_neg c, qI_ix (by omega)]
      have hnb := nbF_NB (ds := upd ds s dv) hn hS
      have step : ∀ (b1 b2 : Nat), (x = s ∨ ¬ cs (6 * s + x) ≤ 0) → ∃ capE' mc' mp' cap' pk' cn' sn' md' PP' c sl, F_X8_renew capE PP mc (upd ds s dv) cs mp pk cap cn sn (nI n) tk md (nI x) = (capE', mc', mp', cap', pk', cn', sn', md', PP', c, sl) ∧ ∃ mc'' cn'' sn'' md'' capE'' cap'' mp'' pk'' PP'' c2 sl2, L_X8_moveTo_49 ds cs (nI n) tk (nI s) dv k (nI (x + 1)) mc' cn' sn' md' capE' cap' mp' pk' PP' (b1 + c) (b2 + sl) = (nI n, mc'', cn'', sn'', md'', capE'', cap'', mp'', pk'', PP'', b1 + c2, b2 + sl2) ∧
          SVS mp'' pk'' cap'' cn'' capE'' PP'' (mmvL (nbF (upd ds s dv) cs n) (cstF cs) n tk cs s k (x + 1) (mmst (nbF (upd ds s dv) cs n) (cstF cs) n tk cs s (M, lt) x)).1 (mmvL (nbF (upd ds s dv) cs n) (cstF cs) n tk cs s k (x + 1) (mmst (nbF (upd ds s dv) cs n) (cstF cs) n tk cs s (M, lt) x)).2 ∧ cap'' ≤ max cap (2 * (lt.length + 5 * (n - x) + 6)) ∧ (∃ Q, PP'' = PP ++ Q ∧ Q.length ≤ n - x) ∧ CO cap cap'' capE capE'' PP PP'' c2 sl2 := by
        intro b1 b2 hx
        obtain ⟨capE1, mc1, mp1, cap1, pk1, cn1, sn1, md1, PP1, c1, s1, e1, g1, g2, ⟨p1, g3⟩, g4, _⟩ := ren_svs mc (upd ds s dv) (cs := cs) sn (n := n) (s := x) hn (by omega) hcs tk md h (by omega) (by omega)
        have hlen := ren_len (cst := cstF cs) (tk := tk) (M := M) (lt := lt) hn hnb (s := x) (by omega)
        have hP1 : PP1.length = PP.length + 1 := by rw [g3, List.length_append]; rfl
        refine ⟨capE1, mc1, mp1, cap1, pk1, cn1, sn1, md1, PP1, c1, s1, e1, ?_⟩
        unfold mmst
        rw [if_pos hx]
        generalize mren (nbF (upd ds s dv) cs n) (cstF cs) n tk (M, lt) x = st at g1 hlen ⊢
        obtain ⟨M1, lt1⟩ := st
        have hlen : lt1.length ≤ lt.length + 5 := hlen
        obtain ⟨mc2, cn2, sn2, md2, capE2, cap2, mp2, pk2, PP2, c2, s2, e2, k1, k2, ⟨Q, k3, k4⟩, k5⟩ := ih (x + 1) mc1 cn1 sn1 md1 capE1 cap1 mp1 pk1 PP1 (b1 + c1) (b2 + s1) M1 lt1 (by omega) (by omega) g1 (by omega) (by omega)
        exact ⟨mc2, cn2, sn2, md2, capE2, cap2, mp2, pk2, PP2, c1 + c2, s1 + s2, by rw [e2, Nat.add_assoc, Nat.add_assoc], k1, by omega, ⟨p1 :: Q, by rw [k3, g3, List.append_assoc]; rfl, by rw [List.length_cons]; omega⟩, CO.tr g4 k5⟩
      by_cases c1 : x = s
      · rw [if_pos (by rw [c1])]
        obtain ⟨capE', mc', mp', cap', pk', cn', sn', md', PP', c2, sl, e, mc'', cn'', sn'', md'', capE'', cap'', mp'', pk'', PP'', c3, sl3, e2, k1⟩ := step nc ns (Or.inl c1)
        rw [e]
        unfold K_X8_moveTo_77
        simp only []
        rw [qI_succ (by omega)]
        exact ⟨mc'', cn'', sn'', md'', capE'', cap'', mp'', pk'', PP'', c3, sl3, e2, k1⟩
      · rw [if_neg (by rw [qI_inj (by omega) (by omega)]; exact c1), cost_nI (by omega) (by omega)]
        by_cases c2 : cs (6 * s + x) ≤ 0
        · rw [if_pos c2, qI_succ (by omega)]
          have em : mmst (nbF (upd ds s dv) cs n) (cstF cs) n tk cs s (M, lt) x = (M, lt) := if_neg (fun z => z.elim c1 (fun w => w c2))
          rw [em]
          obtain ⟨mc2, cn2, sn2, md2, capE2, cap2, mp2, pk2, PP2, c3, s2, e2, k1, k2, ⟨Q, k3, k4⟩, k5⟩ := ih (x + 1) mc cn sn md capE cap mp pk PP (nc + 0) (ns + 0) M lt (by omega) (by omega) h (by omega) (by omega)
          exact ⟨mc2, cn2, sn2, md2, capE2, cap2, mp2, pk2, PP2, c3, s2, e2, k1, by omega, ⟨Q, k3, by omega⟩, k5⟩
        · rw [if_neg c2]
          obtain ⟨capE', mc', mp', cap', pk', cn', sn', md', PP', c4, sl, e, mc'', cn'', sn'', md'', capE'', cap'', mp'', pk'', PP'', c3, sl3, e2, k1⟩ := step (nc + 0) (ns + 0) (Or.inr c2)
          rw [e]
          unfold K_X8_moveTo_77_1
          simp only []
          rw [qI_succ (by omega)]
          exact ⟨mc'', cn'', sn'', md'', capE'', cap'', mp'', pk'', PP'', c3, sl3, e2, k1⟩
theorem move_svs {capE : Nat} {PP : List PG} (mc : Int32) {ds cs mp pk : Nat → Int32} {cap : Nat} {cn : Int32} (sn : Int32) {n s : Nat} (hn : n ≤ 6) (hs : s < n) (dv : Int32) (hcs : CSR_ cs) (hS : CSY cs) (tk lo md : Int32) {M : MP} {lt : List LT} (h : SVS mp pk cap cn capE PP M lt) (hl : lt.length + 40 < 900000) (hP : PP.length + 6 ≤ 900000) :
    ∃ capE' mc' mp' cap' pk' cn' sn' lo' md' PP' c sl, F_X8_moveTo capE PP mc ds cs mp pk cap cn sn (nI n) tk lo md (nI s) dv = (ds s, capE', mc', upd ds s dv, mp', cap', pk', cn', sn', lo', md', PP', c, sl) ∧
      SVS mp' pk' cap' cn' capE' PP' (mmvL (nbF (upd ds s dv) cs n) (cstF cs) n tk cs s (n + 1) 0 (mfor n M s 0 tk, lt.filter (kp s))).1 (mmvL (nbF (upd ds s dv) cs n) (cstF cs) n tk cs s (n + 1) 0 (mfor n M s 0 tk, lt.filter (kp s))).2 ∧ cap' ≤ max cap (2 * (lt.length + 36)) ∧ (∃ Q, PP' = PP ++ Q ∧ Q.length ≤ 6) ∧ CO cap cap' capE capE' PP PP' c sl := by
  obtain ⟨h1, h2, h3, h4, h5⟩ := h
  have hfl := List.length_filter_le (kp s) lt
  have hcn := h1.2.2.2.1
  obtain ⟨cnt, pk1, cn1, e1, g1⟩ := remove_spec h1 (by omega) (s := s) (by omega)
  have g2 := forgetF_spec (n := n) (s := s) hn (by omega) tk 0 g1
  have g3 := g2.2.2.2.1
  obtain ⟨z1, z2, z3, z4⟩ := h2
  have hsv : SVS (F_X8_forget PP mp (nI n) tk (nI s) 0) pk1 cap cn1 capE PP (mfor n M s 0 tk) (lt.filter (kp s)) := ⟨g2, ⟨by omega, by omega, z3, z4⟩, h3, h4, h5⟩
  obtain ⟨mc2, cn2, sn2, md2, capE2, cap2, mp2, pk2, PP2, c2, s2, e2, k1, k2, ⟨Q, k3, k4⟩, k5⟩ := move49 (ds := ds) hn hs dv hcs hS tk (n + 1) 0 mc cn1 sn md capE cap (F_X8_forget PP mp (nI n) tk (nI s) 0) pk1 PP ((((0 + 0) + 0) + 0) + 0) ((((0 + 0) + 0) + 0) + 0) (mfor n M s 0 tk) (lt.filter (kp s)) (by omega) (by omega) hsv (by omega) (by omega)
  refine ⟨capE2, mc2, mp2, cap2, pk2, cn2, sn2, lo + cnt, md2, PP2, c2, s2, ?_, k1, by omega, ⟨Q, k3, by omega⟩, k5⟩
  unfold F_X8_moveTo
  rw [has_nI (by omega) (by omega), if_pos hs, if_neg (by decide), e1]
  unfold K_X8_moveTo_33
  simp only []
  rw [show (((nI n : Int32).toInt - (0 : Int32).toInt).toNat + 1) = n + 1 from by rw [nI_toInt (by omega), i0]; omega]
  rw [show nI 0 = (0 : Int32) from rfl] at e2
  rw [e2]
  unfold K_X8_moveTo_49
  simp only []
  rw [dist_nI hn hs, qI_ix (by omega)]
  simp only [Nat.zero_add, Nat.add_zero]
theorem LB.le {B : Nat} {nb : Nat → Nat → Bool} {cst : Nat → Nat → Int32} {n : Nat} : ∀ {k j : Nat} {tk : Int32} {M : MP} {lt : List LT}, j ≤ k → LB B nb cst n k tk M lt → LB B nb cst n j tk M lt := by
  intro k
  induction k with
  | zero =>
    intro j tk M lt hj h
    have : j = 0 := by omega
    subst this
    exact h
  | succ k ih =>
    intro j tk M lt hj h
    cases j with
    | zero => exact h.1
    | succ j => exact ⟨h.1, ih (by omega) h.2⟩
