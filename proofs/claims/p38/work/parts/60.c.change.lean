/-! CHANGES OF THE WHOLE STATE -/
abbrev nS (S : SV) : Int32 := S.2.2.2.2.2.2.2.1
abbrev tkS (S : SV) : Int32 := S.2.2.2.2.2.2.2.2.1
abbrev cnS (S : SV) : Int32 := S.2.2.2.2.2.1
abbrev mdS (S : SV) : Int32 := S.2.2.2.2.2.2.2.2.2.2.2
theorem gv_z {R r d T : Nat} {capE : Nat} {PP : List PG} {ds cs mp pk : Nat → Int32} {cap : Nat} {cn n tk : Int32} (h : GV R r d T capE PP ds cs mp pk cap cn n tk) (hr : r ≤ R) (hd : d ≤ 100000) (hT : T < 500000) : Zf 6 ds ∧ Zf 36 cs ∧ Zf 36 mp ∧ 0 ≤ cn.toInt ∧ cn.toInt ≤ BR R ∧ ∃ N : Nat, N ≤ 6 ∧ n = nI N := by
  obtain ⟨⟨M, lt, N, f, g1, g2, g3, g4, g5, g6, g7, g8, g10, g11, g12, goz⟩, _⟩ := h
  have z := LB.len (lj_LB (ds := ds) g3 g5 g10 g11 hr hd g12 hT)
  have w := g1.2.2.2.1
  exact ⟨g6, g7, g1.Z, by omega, by omega, N, g3, g2⟩
theorem OKS.step {R r d T Bd r' d' T' Bd' : Nat} {stk stk' : List SV} {sv : Option SV} {ds cs mp pk : Nat → Int32} {cap : Nat} {cn sn n tk av lo md : Int32} {hds hcs hmp hpk : Nat → Nat → Int32} {hcap : Nat → Nat} {hcn hsn hn htk hav hlo hmd : Nat → Int32} {hla hct : Int32} {H' : HV} {TR9 SA9 : SV} {wc wd sg wb nu : Nat → Int32} {ln pl wl wn isv lf kr kd kr2 kd2 mc mc' : Int32} {ch capw kk capE capE' : Nat} {PP PP' : List PG} {ds' cs' mp' pk' : Nat → Int32} {cap' : Nat} {cn' sn' n' tk' av' lo' md' : Int32}
    (h : OKS R r d T Bd stk sv ((ds, cs, mp, pk, cap, cn, sn, n, tk, av, lo, md), TR9, SA9, (hds, hcs, hmp, hpk, hcap, hcn, hsn, hn, htk, hav, hlo, hmd, hla, hct), wc, wd, sg, ln, pl, ch, nu, wb, capw, wl, wn, isv, lf, kk, kr, kd, kr2, kd2, capE, mc, PP)) (hK : RNG R r d T PP H' stk') (hG : GV R r' d' T' capE' PP' ds' cs' mp' pk' cap' cn' n' tk') (hQ : ∃ Q, PP' = PP ++ Q) (hl : PP'.length ≤ Bd') (hBd : Bd' ≤ 900000) (hr : r ≤ r') (hd : d ≤ d') (hT : T ≤ T') :
    OKS R r' d' T' Bd' stk' sv ((ds', cs', mp', pk', cap', cn', sn', n', tk', av', lo', md'), TR9, SA9, H', wc, wd, sg, ln, pl, ch, nu, wb, capw, wl, wn, isv, lf, kk, kr, kd, kr2, kd2, capE', mc', PP') := by
  obtain ⟨hG0, hB, hTr, hSa, hSv, hR, w1, w2, w3, w4, w5⟩ := h
  obtain ⟨Q, rfl⟩ := hQ
  exact ⟨hG, hl, hTr, hSa, SVO.mono hSv Q (by omega) hr hd hT, RNG.mono hK Q (by omega) hr hd hT, w1, w2, w3, w4, w5⟩
