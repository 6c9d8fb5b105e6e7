/-! CHANGES OF A SURVEY: new pages, one surveyor more, a canal's cost -/
/-- a survey over its archive is as the model says -/
def SVS (mp pk : Nat → Int32) (cap : Nat) (cn : Int32) (capE : Nat) (PP : List PG) (M : MP) (lt : List LT) : Prop := SIM PP mp pk cn M lt ∧ LC cap cn ∧ EC capE PP.length ∧ PGX_ PP ∧ capE ≤ 10 + PP.length + PP.length / 2
theorem ren_svs {capE : Nat} {PP : List PG} (mc : Int32) (ds : Nat → Int32) {cs mp pk : Nat → Int32} {cap : Nat} {cn : Int32} (sn : Int32) {n s : Nat} (hn : n ≤ 6) (hs : s < 6) (hcs : CSR_ cs) (tk md : Int32) {M : MP} {lt : List LT} (h : SVS mp pk cap cn capE PP M lt) (hl : lt.length + 6 < 900000) (hP : PP.length ≤ 900000) :
    ∃ capE' mc' mp' cap' pk' cn' sn' md' PP' c sl, F_X8_renew capE PP mc ds cs mp pk cap cn sn (nI n) tk md (nI s) = (capE', mc', mp', cap', pk', cn', sn', md', PP', c, sl) ∧
      SVS mp' pk' cap' cn' capE' PP' (mren (nbF ds cs n) (cstF cs) n tk (M, lt) s).1 (mren (nbF ds cs n) (cstF cs) n tk (M, lt) s).2 ∧ cap' ≤ max cap (2 * (lt.length + 6)) ∧ (∃ p, PP' = PP ++ [p]) ∧ CO cap cap' capE capE' PP PP' c sl ∧ md' = md + 1 := by
  obtain ⟨h1, h2, h3, h4, h5⟩ := h
  obtain ⟨capE', mc', mp', cap', pk', cn', sn', c, sl, e, g1, g2, g3, g4, g5, g6⟩ := renew_spec mc ds cs sn hn hs tk md h1 h2 h3 hl (by omega)
  have hx := (renew_pgx capE mc ds mp pk cap cn sn (nI n) tk md (a1 := nI s) h4 hcs (by rw [nI_toInt (by omega)]; omega) (by rw [nI_toInt (by omega)]; omega) (by omega)).1
  rw [e] at hx
  have el : (PP ++ [mnew (nbF ds cs n) (cstF cs) n tk M s]).length = PP.length + 1 := by rw [List.length_append]; rfl
  exact ⟨capE', mc', mp', cap', pk', cn', sn', md + 1, _, c, sl, e, ⟨g1, g2, by rw [el]; exact g3, hx, by rw [el]; omega⟩, g4, ⟨_, rfl⟩, g6, rfl⟩
/-- one surveyor more -/
theorem add_svs {capE : Nat} {PP : List PG} (mc : Int32) (ds : Nat → Int32) {cs mp pk : Nat → Int32} {cap : Nat} {cn : Int32} (sn : Int32) {n : Nat} (hn : n < 6) (hcs : CSR_ cs) (tk md : Int32) {M : MP} {lt : List LT} (h : SVS mp pk cap cn capE PP M lt) (hl : lt.length + 6 < 900000) (hP : PP.length ≤ 900000) :
    ∃ capE' mc' mp' cap' pk' cn' sn' md' PP' c sl, F_X8_addSurveyor capE PP mc ds cs mp pk cap cn sn (nI n) tk md = (nI n, capE', mc', mp', cap', pk', cn', sn', nI (n + 1), md', PP', c, sl) ∧
      SVS mp' pk' cap' cn' capE' PP' (mren (nbF ds cs (n + 1)) (cstF cs) (n + 1) tk (M, lt) n).1 (mren (nbF ds cs (n + 1)) (cstF cs) (n + 1) tk (M, lt) n).2 ∧ cap' ≤ max cap (2 * (lt.length + 6)) ∧ (∃ Q, PP' = PP ++ Q ∧ Q.length ≤ 6) ∧ CO cap cap' capE capE' PP PP' c sl ∧ md' = md + 1 := by
  obtain ⟨capE', mc', mp', cap', pk', cn', sn', md', PP', c, sl, e, g1, g2, ⟨p, g3⟩, g4, gm⟩ := ren_svs mc ds sn (n := n + 1) (s := n) (by omega) (by omega) hcs tk md h hl hP
  refine ⟨capE', mc', mp', cap', pk', cn', sn', md', PP', c, sl, ?_, g1, g2, ⟨[p], g3, by simp⟩, g4, gm⟩
  unfold F_X8_addSurveyor
  rw [qI_succ (by omega), e]
  show (nI n, capE', mc', mp', cap', pk', cn', sn', nI n + 1, md', PP', 0 + c, 0 + sl) = _
  rw [qI_succ (by omega), Nat.zero_add, Nat.zero_add]
/-- the costs with a canal changed -/
def csU (cs : Nat → Int32) (a b : Nat) (v : Int32) : Nat → Int32 := upd (upd cs (6 * a + b) v) (6 * b + a) v
theorem csU_R {cs : Nat → Int32} {a b : Nat} {v : Int32} (h : CSR_ cs) (h0 : 0 ≤ v.toInt) (h9 : v.toInt ≤ 9) : CSR_ (csU cs a b v) := by
  intro j
  unfold csU
  rw [updA, updA]
  split
  · exact ⟨h0, h9⟩
  · split
    · exact ⟨h0, h9⟩
    · exact h j
theorem csU_Z {cs : Nat → Int32} {a b : Nat} {v : Int32} (h : Zf 36 cs) (ha : a < 6) (hb : b < 6) : Zf 36 (csU cs a b v) := (h.upd (by omega) v).upd (by omega) v
theorem csU_S {cs : Nat → Int32} {a b : Nat} {v : Int32} (h : CSY cs) (ha : a < 6) (hb : b < 6) (hab : a ≠ b) : CSY (csU cs a b v) := by
  obtain ⟨h1, h2⟩ := h
  unfold csU
  refine ⟨fun x y hx hy => ?_, fun x hx => ?_⟩
  · simp only [updA]
    by_cases c1 : 6 * x + y = 6 * b + a
    · have : x = b ∧ y = a := by omega
      rw [if_pos c1, this.1, this.2]
      split
      · rfl
      · rw [if_pos rfl]
    · rw [if_neg c1]
      by_cases c2 : 6 * x + y = 6 * a + b
      · have : x = a ∧ y = b := by omega
        rw [if_pos c2, this.1, this.2, if_pos rfl]
      · rw [if_neg c2, if_neg (by omega), if_neg (by omega)]
        exact h1 x y hx hy
  · simp only [updA]
    rw [if_neg (by omega), if_neg (by omega)]
    exact h2 x hx
theorem dist_nI {ds : Nat → Int32} {n a : Nat} (hn : n ≤ 6) (ha : a < n) : F_X8_districtOf ds (nI n) (nI a) = ds a := by
  unfold F_X8_districtOf
  rw [has_nI (by omega) (by omega), if_pos ha, if_neg (by decide), qI_ix (by omega)]
theorem cost_nI {cs : Nat → Int32} {a b : Nat} (ha : a < 6) (hb : b < 6) : F_X8_costBetween cs (nI a) (nI b) = cs (6 * a + b) := by
  unfold F_X8_costBetween
  rw [ixpair_nI ha hb]
theorem min_nI {a b : Nat} (ha : a < 6) (hb : b < 6) : inI (nI a) (nI b) = nI (min a b) := by
  have key : ∀ i j : Fin 6, inI (nI i.val) (nI j.val) = nI (min i.val j.val) := by decide +kernel
  exact key ⟨a, ha⟩ ⟨b, hb⟩
theorem max_nI {a b : Nat} (ha : a < 6) (hb : b < 6) : axI (nI a) (nI b) = nI (max a b) := by
  have key : ∀ i j : Fin 6, axI (nI i.val) (nI j.val) = nI (max i.val j.val) := by decide +kernel
  exact key ⟨a, ha⟩ ⟨b, hb⟩
theorem upd_csU {cs : Nat → Int32} {a b : Nat} {v : Int32} (ha : a < 6) (hb : b < 6) : upd (upd cs (ix (F_X8_pair (nI a) (nI b))) v) (ix (F_X8_pair (nI b) (nI a))) v = csU cs a b v := by
  rw [ixpair_nI ha hb, ixpair_nI hb ha]
  rfl
theorem ren_len {nb : Nat → Nat → Bool} {cst : Nat → Nat → Int32} {n s : Nat} {tk : Int32} {M : MP} {lt : List LT} (hn : n ≤ 6) (hnb : NB_ nb) (hs : s < 6) : (mren nb cst n tk (M, lt) s).2.length ≤ lt.length + 5 := by
  show (lt ++ msl nb n s (mnew nb cst n tk M s) 99).length ≤ _
  rw [List.length_append]
  have := msl_len5 (ex := 99) (p := mnew nb cst n tk M s) hn hnb hs
  omega
/-- a canal between two in one district: both have new pages -/
theorem canal_svs {capE : Nat} {PP : List PG} (mc : Int32) {ds cs mp pk : Nat → Int32} {cap : Nat} {cn : Int32} (sn : Int32) {n a b : Nat} (hn : n ≤ 6) (ha : a < n) (hb : b < n) (hab : a ≠ b) (v : Int32) (hcs : CSR_ (csU cs a b v)) (hS : CSY (csU cs a b v)) (tk md : Int32) {M : MP} {lt : List LT} (h : SVS mp pk cap cn capE PP M lt) (hl : lt.length + 20 < 900000) (hP : PP.length ≤ 890000) (hd : ds a = ds b) :
    ∃ capE' mc' mp' cap' pk' cn' sn' md' PP' c sl, F_X8_setCanal capE PP mc ds cs mp pk cap cn sn (nI n) tk md (nI a) (nI b) v = (cs (6 * a + b), capE', mc', csU cs a b v, mp', cap', pk', cn', sn', md', PP', c, sl) ∧
      SVS mp' pk' cap' cn' capE' PP' (mren (nbF ds (csU cs a b v) n) (cstF (csU cs a b v)) n tk (mren (nbF ds (csU cs a b v) n) (cstF (csU cs a b v)) n tk (M, lt) (min a b)) (max a b)).1 (mren (nbF ds (csU cs a b v) n) (cstF (csU cs a b v)) n tk (mren (nbF ds (csU cs a b v) n) (cstF (csU cs a b v)) n tk (M, lt) (min a b)) (max a b)).2 ∧ cap' ≤ max cap (2 * (lt.length + 12)) ∧ (∃ Q, PP' = PP ++ Q ∧ Q.length ≤ 6) ∧ CO cap cap' capE capE' PP PP' c sl ∧ md' = md + 1 + 1 := by
  have hnb := nbF_NB (ds := ds) hn hS
  obtain ⟨capE1, mc1, mp1, cap1, pk1, cn1, sn1, md1, PP1, c1, s1, e1, g1, g2, ⟨p1, g3⟩, g4, gm⟩ := ren_svs mc ds (cs := csU cs a b v) sn (n := n) (s := min a b) hn (by omega) hcs tk md h (by omega) (by omega)
  have hlen := ren_len (cst := cstF (csU cs a b v)) (tk := tk) (M := M) (lt := lt) hn hnb (s := min a b) (by omega)
  generalize mren (nbF ds (csU cs a b v) n) (cstF (csU cs a b v)) n tk (M, lt) (min a b) = st at g1 hlen ⊢
  obtain ⟨M1, lt1⟩ := st
  have hlen : lt1.length ≤ lt.length + 5 := hlen
  have hP1 : PP1.length = PP.length + 1 := by rw [g3, List.length_append]; rfl
  obtain ⟨capE2, mc2, mp2, cap2, pk2, cn2, sn2, md2, PP2, c2, s2, e2, k1, k2, ⟨p2, k3⟩, k4, km⟩ := ren_svs mc1 ds (cs := csU cs a b v) sn1 (n := n) (s := max a b) hn (by omega) hcs tk md1 g1 (by omega) (by omega)
  refine ⟨capE2, mc2, mp2, cap2, pk2, cn2, sn2, md2, PP2, c1 + c2, s1 + s2, ?_, k1, by omega, ⟨[p1, p2], by rw [k3, g3, List.append_assoc]; rfl, by simp⟩, CO.tr g4 k4, by rw [km, gm]⟩
  unfold F_X8_setCanal
  rw [dist_nI hn ha, dist_nI hn hb, if_pos hd, upd_csU (by omega) (by omega), min_nI (by omega) (by omega), e1]
  unfold K_X8_setCanal_49
  simp only []
  rw [upd_csU (by omega) (by omega), max_nI (by omega) (by omega), e2]
  unfold K_X8_setCanal_58
  simp only []
  rw [upd_csU (by omega) (by omega), cost_nI (by omega) (by omega)]
  simp only [Nat.zero_add]
/-- a canal between two of different districts -/
theorem canal2_eq (capE : Nat) (PP : List PG) (mc : Int32) {ds cs : Nat → Int32} (mp pk : Nat → Int32) (cap : Nat) (cn sn : Int32) {n a b : Nat} (hn : n ≤ 6) (ha : a < n) (hb : b < n) (v tk md : Int32) (hd : ¬ ds a = ds b) :
    F_X8_setCanal capE PP mc ds cs mp pk cap cn sn (nI n) tk md (nI a) (nI b) v = (cs (6 * a + b), capE, mc, csU cs a b v, mp, cap, pk, cn, sn, md, PP, 0, 0) := by
  unfold F_X8_setCanal
  rw [dist_nI hn ha, dist_nI hn hb, if_neg hd, upd_csU (by omega) (by omega), cost_nI (by omega) (by omega)]
