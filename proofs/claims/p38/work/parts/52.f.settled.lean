/-! COPIES; HOW LONG LETTERS ARE ON THEIR WAY -/
theorem cpyZ {f g : Nat → Int32} {e : Nat} (hf : Zf e f) (hg : Zf e g) : va_cpy f g 0 0 e = f := by
  funext i
  by_cases c : i < e
  · exact cpy_in c
  · rw [cpy_out (by omega), hg i (by omega), hf i (by omega)]
theorem SIM.Z {PP : List PG} {mp pk : Nat → Int32} {cn : Int32} {M : MP} {lt : List LT} (h : SIM PP mp pk cn M lt) : Zf 36 mp := fun j hj => (h.2.1 j).2.2 hj
theorem SIM.pk {PP : List PG} {mp pk pk' : Nat → Int32} {cn : Int32} {M : MP} {lt : List LT} (h : SIM PP mp pk cn M lt) (e : ∀ i, i < ix cn → pk i = pk' i) : SIM PP mp pk' cn M lt := by
  obtain ⟨hp, hm, hM, hc, hL⟩ := h
  refine ⟨hp, hm, hM, hc, fun k l hk => ?_⟩
  have hk2 : k < lt.length := (List.getElem?_eq_some_iff.mp hk).1
  rw [← e k (by rw [ix_toNat]; omega)]
  exact hL k l hk
theorem SIM.app {PP : List PG} {mp pk : Nat → Int32} {cn : Int32} {M : MP} {lt : List LT} (h : SIM PP mp pk cn M lt) : ∀ (Q : List PG), PP.length + Q.length ≤ 2000000 → SIM (PP ++ Q) mp pk cn M lt := by
  intro Q
  induction Q generalizing PP with
  | nil => intro _; rw [List.append_nil]; exact h
  | cons p Q ih =>
    intro hl
    rw [List.length_cons] at hl
    have := ih (SIM.push h p (by omega)) (by rw [List.length_append, List.length_cons, List.length_nil]; omega)
    rw [List.append_assoc] at this
    exact this
/-- what a copy costs -/
def CC (cap cap' c s : Nat) : Prop := cap ≤ cap' ∧ s + 2 * cap ≤ 2 * cap' ∧ 64 * c + cap ≤ cap'
theorem take_spec (pk : Nat → Int32) {cap : Nat} (pk2 : Nat → Int32) {cn2 : Int32} (sn2 : Int32) (h0 : 0 ≤ cn2.toInt) (h1 : cn2.toInt ≤ 1000000) (hc : 64 ≤ cap) (hc2 : cap ≤ 2000000) :
    ∃ cap' pk' c s, F_X5_takeOver pk cap pk2 cn2 sn2 = (cap', pk', cn2, sn2, c, s) ∧ (∀ i, i < ix cn2 → pk2 i = pk' i) ∧ LC cap' cn2 ∧ cap' ≤ max cap (2 * cn2.toInt.toNat) ∧ CC cap cap' c s := by
  have en := nI_toInt (n := cap) (by omega)
  unfold F_X5_takeOver
  by_cases c : cn2 ≤ nI cap
  · have := f_le c
    rw [if_pos c]
    exact ⟨_, _, _, _, rfl, fun i hi => (cpy_in hi).symm, ⟨h0, by omega, hc, hc2⟩, by omega, ⟨by omega, by omega, by omega⟩⟩
  · have := f_nle c
    rw [if_neg c]
    have e2 : (2 : Int32).toInt = 2 := by decide +kernel
    have em : (2 * cn2).toInt = 2 * cn2.toInt := by
      rw [mulI (by rw [e2]; omega) (by rw [e2]; omega), e2]
    have ex : ix (2 * cn2) = 2 * cn2.toInt.toNat := by rw [ix_toNat, em]; omega
    rw [ex]
    exact ⟨_, _, _, _, rfl, fun i hi => (cpy_in hi).symm, ⟨h0, by omega, by omega, by omega⟩, by omega, ⟨by omega, by omega, by omega⟩⟩
theorem copy_spec {ds cs mp : Nat → Int32} (pk : Nat → Int32) {cap : Nat} {ds2 cs2 mp2 : Nat → Int32} (pk2 : Nat → Int32) {cn2 : Int32} (sn2 n2 tk2 av2 lo2 md2 : Int32) (z1 : Zf 6 ds) (z2 : Zf 36 cs) (z3 : Zf 36 mp) (y1 : Zf 6 ds2) (y2 : Zf 36 cs2) (y3 : Zf 36 mp2) (h0 : 0 ≤ cn2.toInt) (h1 : cn2.toInt ≤ 1000000) (hc : 64 ≤ cap) (hc2 : cap ≤ 2000000) :
    ∃ cap' pk' c s, F_X8_copyFrom ds cs mp pk cap ds2 cs2 mp2 pk2 cn2 sn2 n2 tk2 av2 lo2 md2 = (ds2, cs2, mp2, cap', pk', cn2, sn2, n2, tk2, av2, lo2, md2, c, s) ∧ (∀ i, i < ix cn2 → pk2 i = pk' i) ∧ LC cap' cn2 ∧ cap' ≤ max cap (2 * cn2.toInt.toNat) ∧ CC cap cap' c s := by
  obtain ⟨cap', pk', c, s, e, g1, g2, g3, g4⟩ := take_spec pk (cap := cap) pk2 sn2 h0 h1 hc hc2
  refine ⟨cap', pk', c, s, ?_, g1, g2, g3, g4⟩
  unfold F_X8_copyFrom
  rw [e]
  show (va_cpy ds2 ds 0 0 6, va_cpy cs2 cs 0 0 36, va_cpy mp2 mp 0 0 36, cap', pk', cn2, sn2, n2, tk2, av2, lo2, md2, 0 + c, 0 + s) = _
  rw [cpyZ y1 z1, cpyZ y2 z2, cpyZ y3 z3, Nat.zero_add, Nat.zero_add]
/-- the model of settledIn -/
def msett (nb : Nat → Nat → Bool) (cst : Nat → Nat → Int32) (n : Nat) : Nat → Nat → Int32 → MP → List LT → Option Nat
  | 0, _, _, _, _ => none
  | k + 1, t, tk, M, lt => if (mtick nb cst n (tk + 1) M lt).2.length = 0 then some t else msett nb cst n k (t + 1) (tk + 1) (mtick nb cst n (tk + 1) M lt).1 (mtick nb cst n (tk + 1) M lt).2
/-- no more letters than B in the next k ticks -/
def LB (B : Nat) (nb : Nat → Nat → Bool) (cst : Nat → Nat → Int32) (n : Nat) : Nat → Int32 → MP → List LT → Prop
  | 0, _, _, lt => lt.length ≤ B
  | k + 1, tk, M, lt => lt.length ≤ B ∧ LB B nb cst n k (tk + 1) (mtick nb cst n (tk + 1) M lt).1 (mtick nb cst n (tk + 1) M lt).2
theorem LB.len {B : Nat} {nb : Nat → Nat → Bool} {cst : Nat → Nat → Int32} {n k : Nat} {tk : Int32} {M : MP} {lt : List LT} (h : LB B nb cst n k tk M lt) : lt.length ≤ B := by
  cases k with
  | zero => exact h
  | succ k => exact h.1
def st_ : Option Nat → Nat
  | none => 4
  | some _ => 0
def va_ : Option Nat → Int32
  | none => 0
  | some t => nI t
theorem sett28 {ds cs : Nat → Int32} {n : Nat} (hn : n ≤ 6) (hcs : CSR_ cs) {B : Nat} (hB : 2 * B + 50 < 900000) : ∀ (m t : Nat) (mc cn sn tk av lo md : Int32) (capE cap : Nat) (mp pk : Nat → Int32) (PP : List PG) (nc ns : Nat) (M : MP) (lt : List LT), t + m = 100 → 1 ≤ t → SIM PP mp pk cn M lt → LC cap cn → EC capE PP.length → PGX_ PP → LB B (nbF ds cs n) (cstF cs) n m tk M lt → PP.length + 6 * m ≤ 900000 →
    ∃ capE' mc' mp' cap' pk' cn' sn' tk' av' lo' md' PP' c s c0 s0,
      K_X10_settledIn_28 ds cs (nI n) (L_X10_settledIn_28 ds cs (nI n) (m + 1) (nI t) mc cn sn tk av lo md capE cap mp pk PP nc ns) = (st_ (msett (nbF ds cs n) (cstF cs) n m t tk M lt), va_ (msett (nbF ds cs n) (cstF cs) n m t tk M lt), capE', mc', ds, cs, mp', cap', pk', cn', sn', nI n, tk', av', lo', md', PP', nc + c, ns + s) ∧ 
      Zf 36 mp' ∧ LC cap' cn' ∧ EC capE' PP'.length ∧ PGX_ PP' ∧ (∃ Q, PP' = PP ++ Q ∧ Q.length ≤ 6 * m) ∧ cap' ≤ max cap (2 * (2 * B + 6)) ∧ capE' ≤ max capE (PP'.length + PP'.length / 2) ∧ CO cap cap' capE capE' PP PP' c0 s0 ∧ c ≤ c0 + 1 ∧ s ≤ s0 + 6 := by
  intro m
  induction m with
  | zero =>
    intro t mc cn sn tk av lo md capE cap mp pk PP nc ns M lt ht h1 hS hc hE hP hL hl
    have et : t = 100 := by omega
    subst et
    rw [show L_X10_settledIn_28 ds cs (nI n) (0 + 1) (nI 100) mc cn sn tk av lo md capE cap mp pk PP nc ns = B_X10_settledIn_28 ds cs (nI n) (L_X10_settledIn_28 ds cs (nI n) 0) (nI 100) mc cn sn tk av lo md capE cap mp pk PP nc ns from rfl]
    unfold B_X10_settledIn_28
    rw [if_pos (by decide)]
    exact ⟨capE, mc, mp, cap, pk, cn, sn, tk, av, lo, md, PP, 1, 6, 0, 0, rfl, hS.Z, hc, hE, hP, ⟨[], (List.append_nil _).symm, by simp⟩, by omega, by omega, CO.rf, by omega, by omega⟩
  | succ m ih =>
    intro t mc cn sn tk av lo md capE cap mp pk PP nc ns M lt ht h1 hS hc hE hP hL hl
    obtain ⟨hL1, hL2⟩ := hL
    have hL3 := LB.len hL2
    rw [show L_X10_settledIn_28 ds cs (nI n) (m + 1 + 1) (nI t) mc cn sn tk av lo md capE cap mp pk PP nc ns = B_X10_settledIn_28 ds cs (nI n) (L_X10_settledIn_28 ds cs (nI n) (m + 1)) (nI t) mc cn sn tk av lo md capE cap mp pk PP nc ns from rfl]
    unfold B_X10_settledIn_28
    have c99 : ¬ (99 : Int32) < nI t := by
      rw [show (99 : Int32) = nI 99 from rfl, qI_lt (by omega) (by omega)]
      omega
    rw [if_neg c99]
    obtain ⟨capE1, mc1, mp1, cap1, pk1, cn1, sn1, av1, lo1, md1, PP1, c1, s1, e1, g1, g2, g3, g4, ⟨Q1, g5, g6⟩, g7, g8, g9⟩ := tick_spec (ds := ds) mc sn hn tk av lo md hS hc hE hP hcs (by omega) (by omega) (by omega)
    rw [e1]
    unfold K_X10_settledIn_38
    simp only []
    have hz : (cn1 = 0) ↔ (mtick (nbF ds cs n) (cstF cs) n (tk + 1) M lt).2.length = 0 := by
      have w := g1.cnI
      have w2 := g1.2.2.2.1
      rw [w, ← qI_0, qI_inj (by omega) (by omega)]
    unfold msett
    have hPl : PP1.length = PP.length + Q1.length := by rw [g5, List.length_append]
    by_cases cz : (mtick (nbF ds cs n) (cstF cs) n (tk + 1) M lt).2.length = 0
    · rw [if_pos cz, if_pos (hz.mpr cz)]
      refine ⟨capE1, mc1, mp1, cap1, pk1, cn1, sn1, tk + 1, av1, lo1, md1, PP1, c1, s1, c1, s1, rfl, g1.Z, g2, g3, g4, ⟨Q1, g5, by omega⟩, by omega, g8, g9, by omega, by omega⟩
    · rw [if_neg cz, if_neg (fun z => cz (hz.mp z)), qI_succ (by omega)]
      obtain ⟨capE', mc', mp', cap', pk', cn', sn', tk', av', lo', md', PP', c, s, c0, s0, e2, k1, k2, k3, k4, ⟨Q2, k5, k6⟩, k7, k8, k9, k10, k11⟩ := ih (t + 1) mc1 cn1 sn1 (tk + 1) av1 lo1 md1 capE1 cap1 mp1 pk1 PP1 (nc + c1) (ns + s1) _ _ (by omega) (by omega) g1 g2 g3 g4 hL2 (by omega)
      have hPl2 : PP'.length = PP1.length + Q2.length := by rw [k5, List.length_append]
      refine ⟨capE', mc', mp', cap', pk', cn', sn', tk', av', lo', md', PP', c1 + c, s1 + s, c1 + c0, s1 + s0, ?_, k1, k2, k3, k4, ⟨Q1 ++ Q2, by rw [k5, g5, List.append_assoc], by rw [List.length_append]; omega⟩, by omega, by omega, CO.tr g9 k9, by omega, by omega⟩
      rw [e2, Nat.add_assoc, Nat.add_assoc]
theorem fuel99 : (((99 : Int32).toInt + 1 - (1 : Int32).toInt).toNat + 1) = 99 + 1 := by decide
/-- settledIn answers what the model says; the trial, the archive, what it costs -/
theorem sett_spec {capE : Nat} {PP : List PG} (mc : Int32) {ds cs mp pk : Nat → Int32} {cn : Int32} (sn : Int32) {n : Nat} (tk av lo md : Int32) {ds_t cs_t mp_t : Nat → Int32} (pk_t : Nat → Int32) {cap_t : Nat} (cn_t sn_t n_t tk_t av_t lo_t md_t : Int32) (hn : n ≤ 6) (hcs : CSR_ cs) {B : Nat} (hB : 2 * B + 50 < 900000) {M : MP} {lt : List LT} (hS : SIM PP mp pk cn M lt) (hE : EC capE PP.length) (hP : PGX_ PP) (hL : LB B (nbF ds cs n) (cstF cs) n 99 tk M lt) (hl : PP.length + 600 ≤ 900000)
    (z1 : Zf 6 ds_t) (z2 : Zf 36 cs_t) (z3 : Zf 36 mp_t) (y1 : Zf 6 ds) (y2 : Zf 36 cs) (hc : 64 ≤ cap_t) (hc2 : cap_t ≤ 2000000) :
    ∃ capE' mc' ds' cs' mp' cap' pk' cn' sn' n' tk' av' lo' md' PP' c s c0 s0,
      F_X10_settledIn capE PP mc ds cs mp pk cn sn (nI n) tk av lo md ds_t cs_t mp_t pk_t cap_t cn_t sn_t n_t tk_t av_t lo_t md_t = (if lt.length = 0 then 0 else st_ (msett (nbF ds cs n) (cstF cs) n 99 1 tk M lt), if lt.length = 0 then 0 else va_ (msett (nbF ds cs n) (cstF cs) n 99 1 tk M lt), capE', mc', ds', cs', mp', cap', pk', cn', sn', n', tk', av', lo', md', PP', c, s) ∧ 
      Zf 6 ds' ∧ Zf 36 cs' ∧ Zf 36 mp' ∧ 64 ≤ cap' ∧ cap' ≤ 2000000 ∧ EC capE' PP'.length ∧ PGX_ PP' ∧ (∃ Q, PP' = PP ++ Q ∧ Q.length ≤ 600) ∧ cap' ≤ max cap_t (2 * (2 * B + 6)) ∧ capE' ≤ max capE (PP'.length + PP'.length / 2) ∧ CO cap_t cap' capE capE' PP PP' c0 s0 ∧ c ≤ c0 + 1 ∧ s ≤ s0 + 6 := by
  have hB1 := LB.len hL
  have hcn := hS.2.2.2.1
  have hz : (cn = 0) ↔ lt.length = 0 := by
    rw [hS.cnI, ← qI_0, qI_inj (by omega) (by omega)]
  unfold F_X10_settledIn
  by_cases c0 : lt.length = 0
  · rw [if_pos (hz.mpr c0), if_pos c0, if_pos c0]
    exact ⟨capE, mc, ds_t, cs_t, mp_t, cap_t, pk_t, cn_t, sn_t, n_t, tk_t, av_t, lo_t, md_t, PP, 0, 0, 0, 0, rfl, z1, z2, z3, hc, hc2, hE, hP, ⟨[], (List.append_nil _).symm, by simp⟩, by omega, by omega, CO.rf, by omega, by omega⟩
  · rw [if_neg (fun z => c0 (hz.mp z)), if_neg c0, if_neg c0]
    obtain ⟨cap1, pk1, c1, s1, e1, g1, g2, g3, g4⟩ := copy_spec (cn2 := cn) pk_t (cap := cap_t) pk sn (nI n) tk av lo md z1 z2 z3 y1 y2 hS.Z (by omega) (by omega) hc hc2
    rw [e1]
    unfold K_X10_settledIn_23
    simp only []
    rw [fuel99]
    obtain ⟨capE', mc', mp', cap', pk', cn', sn', tk', av', lo', md', PP', c, s, c2, s2, e2, k1, k2, k3, k4, ⟨Q2, k5, k6⟩, k7, k8, k9, k10, k11⟩ := sett28 hn hcs hB 99 1 mc cn sn tk av lo md capE cap1 mp pk1 PP (0 + c1) (0 + s1) M lt (by omega) (by omega) (hS.pk g1) g2 hE hP hL (by omega)
    rw [show nI 1 = (1 : Int32) from rfl] at e2
    rw [e2]
    obtain ⟨w1, w2, w3⟩ := g4
    obtain ⟨u1, u2, u3, u4, u5⟩ := k9
    refine ⟨capE', mc', ds, cs, mp', cap', pk', cn', sn', nI n, tk', av', lo', md', PP', 0 + c1 + c, 0 + s1 + s, c1 + c2, s1 + s2, rfl, y1, y2, k1, k2.2.2.1, k2.2.2.2, k3, k4, ⟨Q2, k5, by omega⟩, by omega, by omega, ⟨by omega, by omega, by omega, by omega, by omega⟩, by omega, by omega⟩
