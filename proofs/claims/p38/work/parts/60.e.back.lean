/-! UNDO, SAVE, RESTORE, asks OVER THE WHOLE STATE -/
theorem OKS.mono {R r d T Bd r' d' T' Bd' : Nat} {stk : List SV} {sv : Option SV} {M : MS} (h : OKS R r d T Bd stk sv M) (hr : r ≤ r') (hd : d ≤ d') (hT : T ≤ T') (hB : Bd ≤ Bd') (hB9 : Bd' ≤ 900000) : OKS R r' d' T' Bd' stk sv M := by
  obtain ⟨⟨ds, cs, mp, pk, cap, cn, sn, n, tk, av, lo, md⟩, ⟨ds_t, cs_t, mp_t, pk_t, cap_t, cn_t, sn_t, n_t, tk_t, av_t, lo_t, md_t⟩, ⟨ds_s, cs_s, mp_s, pk_s, cap_s, cn_s, sn_s, n_s, tk_s, av_s, lo_s, md_s⟩, ⟨hds, hcs, hmp, hpk, hcap, hcn, hsn, hn, htk, hav, hlo, hmd, hla, hct⟩, wc, wd, sg, ln, pl, ch, nu, wb, capw, wl, wn, isv, lf, kk, kr, kd, kr2, kd2, capE, mc, PP⟩ := M
  obtain ⟨hG, hPl, hTr, hSa, hSv, hRg, w⟩ := h
  have e : PP ++ [] = PP := List.append_nil _
  refine ⟨GV.mono hG hr hd hT, by omega, hTr, hSa, ?_, ?_, w⟩
  · have z := SVO.mono hSv [] (by rw [e]; omega) hr hd hT
    rw [e] at z
    exact z
  · have z := RNG.mono hRg [] (by rw [e]; omega) hr hd hT
    rw [e] at z
    exact z
theorem OKS.gss {R r d T Bd : Nat} {stk : List SV} {sv : Option SV} {M : MS} (h : OKS R r d T Bd stk sv M) : GSS r d T (arch M) M.1 := by
  obtain ⟨⟨ds, cs, mp, pk, cap, cn, sn, n, tk, av, lo, md⟩, ⟨ds_t, cs_t, mp_t, pk_t, cap_t, cn_t, sn_t, n_t, tk_t, av_t, lo_t, md_t⟩, ⟨ds_s, cs_s, mp_s, pk_s, cap_s, cn_s, sn_s, n_s, tk_s, av_s, lo_s, md_s⟩, ⟨hds, hcs, hmp, hpk, hcap, hcn, hsn, hn, htk, hav, hlo, hmd, hla, hct⟩, wc, wd, sg, ln, pl, ch, nu, wb, capw, wl, wn, isv, lf, kk, kr, kd, kr2, kd2, capE, mc, PP⟩ := M
  exact h.1.1
theorem OKS.nS {R r d T Bd : Nat} {stk : List SV} {sv : Option SV} {M : MS} (h : OKS R r d T Bd stk sv M) : ∃ N : Nat, N ≤ 6 ∧ nS M.1 = nI N := by
  obtain ⟨M1, lt, N, f, g1, g2, g3, _⟩ := h.gss
  exact ⟨N, g3, g2⟩
/-- a survey put back from a place: the new now -/
theorem OKS.put {R r d T Bd : Nat} {stk stk' : List SV} {sv : Option SV} {ds cs mp pk : Nat → Int32} {cap : Nat} {cn sn n tk av lo md : Int32} {hds hcs hmp hpk : Nat → Nat → Int32} {hcap : Nat → Nat} {hcn hsn hn htk hav hlo hmd : Nat → Int32} {hla hct : Int32} {H' : HV} {TR9 SA9 : SV} {wc wd sg wb nu : Nat → Int32} {ln pl wl wn isv lf kr kd kr2 kd2 mc : Int32} {ch capw kk capE : Nat} {PP : List PG} {ds' cs' mp' pk' : Nat → Int32} {cap' : Nat} {cn' sn' n' tk' av' lo' md' : Int32}
    (h : OKS R r d T Bd stk sv ((ds, cs, mp, pk, cap, cn, sn, n, tk, av, lo, md), TR9, SA9, (hds, hcs, hmp, hpk, hcap, hcn, hsn, hn, htk, hav, hlo, hmd, hla, hct), wc, wd, sg, ln, pl, ch, nu, wb, capw, wl, wn, isv, lf, kk, kr, kd, kr2, kd2, capE, mc, PP)) (hK : RNG R r d T PP H' stk') (hG : GSS r d T PP (ds', cs', mp', pk', cap', cn', sn', n', tk', av', lo', md')) (hc : LC cap' cn') (hc2 : cap' ≤ 4 * BR R + 12) :
    OKS R r d T Bd stk' sv ((ds', cs', mp', pk', cap', cn', sn', n', tk', av', lo', md'), TR9, SA9, H', wc, wd, sg, ln, pl, ch, nu, wb, capw, wl, wn, isv, lf, kk, kr, kd, kr2, kd2, capE, mc, PP) := by
  obtain ⟨hG0, hB, hTr, hSa, hSv, hR, w⟩ := h
  exact ⟨⟨hG, hc, hG0.2.2.1, hc2⟩, hB, hTr, hSa, hSv, hK, w⟩
theorem RNG.opn {R r d T : Nat} {P : List PG} {hds hcs hmp hpk : Nat → Nat → Int32} {hcap : Nat → Nat} {hcn hsn hn htk hav hlo hmd : Nat → Int32} {hla hct : Int32} {stk : List SV} (h : RNG R r d T P (hds, hcs, hmp, hpk, hcap, hcn, hsn, hn, htk, hav, hlo, hmd, hla, hct) stk) : (∀ j, j < 8 → SLT (2 * BR R + 64) (hds j, hcs j, hmp j, hpk j, hcap j, hcn j, hsn j, hn j, htk j, hav j, hlo j, hmd j)) ∧ ∃ i0, i0 < 8 ∧ hla = nI i0 ∧ hct = nI stk.length ∧ stk.length ≤ 8 ∧ ∀ i S, stk[i]? = some S → EQN S (hds ((i0 + 8 - i) % 8), hcs ((i0 + 8 - i) % 8), hmp ((i0 + 8 - i) % 8), hpk ((i0 + 8 - i) % 8), hcap ((i0 + 8 - i) % 8), hcn ((i0 + 8 - i) % 8), hsn ((i0 + 8 - i) % 8), hn ((i0 + 8 - i) % 8), htk ((i0 + 8 - i) % 8), hav ((i0 + 8 - i) % 8), hlo ((i0 + 8 - i) % 8), hmd ((i0 + 8 - i) % 8)) ∧ GSS r d T P S := h
theorem RNG.cls {R r d T : Nat} {P : List PG} {hds hcs hmp hpk : Nat → Nat → Int32} {hcap : Nat → Nat} {hcn hsn hn htk hav hlo hmd : Nat → Int32} {hla hct : Int32} {stk : List SV} (h : (∀ j, j < 8 → SLT (2 * BR R + 64) (hds j, hcs j, hmp j, hpk j, hcap j, hcn j, hsn j, hn j, htk j, hav j, hlo j, hmd j)) ∧ ∃ i0, i0 < 8 ∧ hla = nI i0 ∧ hct = nI stk.length ∧ stk.length ≤ 8 ∧ ∀ i S, stk[i]? = some S → EQN S (hds ((i0 + 8 - i) % 8), hcs ((i0 + 8 - i) % 8), hmp ((i0 + 8 - i) % 8), hpk ((i0 + 8 - i) % 8), hcap ((i0 + 8 - i) % 8), hcn ((i0 + 8 - i) % 8), hsn ((i0 + 8 - i) % 8), hn ((i0 + 8 - i) % 8), htk ((i0 + 8 - i) % 8), hav ((i0 + 8 - i) % 8), hlo ((i0 + 8 - i) % 8), hmd ((i0 + 8 - i) % 8)) ∧ GSS r d T P S) : RNG R r d T P (hds, hcs, hmp, hpk, hcap, hcn, hsn, hn, htk, hav, hlo, hmd, hla, hct) stk := h
theorem oq_undo {R r d T Bd : Nat} {S : SV} {stk : List SV} {sv : Option SV} {M : MS} (h : OKS R r d T Bd (S :: stk) sv M) (hr : r ≤ R) (hR : R ≤ 32) (hd : d ≤ 100000) (hT : T < 500000) : OQ 4 24 M (F_L_undo M) (fun v N => OKS R r d T Bd stk sv N ∧ arch N = arch M ∧ v = nI stk.length ∧ EQN S N.1) := by
  obtain ⟨⟨ds, cs, mp, pk, cap, cn, sn, n, tk, av, lo, md⟩, ⟨ds_t, cs_t, mp_t, pk_t, cap_t, cn_t, sn_t, n_t, tk_t, av_t, lo_t, md_t⟩, ⟨ds_s, cs_s, mp_s, pk_s, cap_s, cn_s, sn_s, n_s, tk_s, av_s, lo_s, md_s⟩, ⟨hds, hcs, hmp, hpk, hcap, hcn, hsn, hn, htk, hav, hlo, hmd, hla, hct⟩, wc, wd, sg, ln, pl, ch, nu, wb, capw, wl, wn, isv, lf, kk, kr, kd, kr2, kd2, capE, mc, PP⟩ := M
  have h9 := h
  obtain ⟨hG, hPl, hTr, hSa, hSv, hRg, w⟩ := h9
  obtain ⟨k1, i0, k2, k3, k4, k5, k6⟩ := RNG.opn hRg
  obtain ⟨z1, z2, z3, z4, z5, N9, hN, en⟩ := gv_z hG hr hd hT
  have hB := BR_le hR
  have hL : LBB = 72420 := rfl
  replace k4 : hct = nI (stk.length + 1) := k4
  replace k5 : stk.length + 1 ≤ 8 := k5
  subst k3 k4
  obtain ⟨e0, g0⟩ := k6 0 S rfl
  rw [show (i0 + 8 - 0) % 8 = i0 by omega] at e0
  obtain ⟨s1, s2, s3, s4, s5⟩ := k1 i0 k2
  have gs := GSS.eqn g0 e0
  have gcn := GSS.cn gs hr hd hT
  replace gcn : 0 ≤ (hcn i0).toInt ∧ (hcn i0).toInt ≤ BR R := gcn
  have hcap0 := hG.2.1
  have hcap1 := hG.2.2.2
  obtain ⟨c1, c2, c3, c4⟩ := hcap0
  obtain ⟨cap', pk', c, s, e, q1, q2, q3, q4⟩ := undo_spec (hds := hds) (hcs := hcs) (hmp := hmp) (hpk := hpk) (hcn := hcn) (hsn := hsn) (hn := hn) (htk := htk) (hav := hav) (hlo := hlo) (hmd := hmd) (hla := nI i0) (hct := nI (stk.length + 1)) (ds := ds) (cs := cs) (mp := mp) pk (cap := cap) cn sn n tk av lo md (j := i0) (qI_ix (by omega)) (by rw [nI_toInt (by omega)]; omega) z1 z2 z3 s1 s2 s3 gcn.1 (by omega) c3 (by omega)
  have e2 : EQN (hds i0, hcs i0, hmp i0, hpk i0, hcap i0, hcn i0, hsn i0, hn i0, htk i0, hav i0, hlo i0, hmd i0) (hds i0, hcs i0, hmp i0, pk', cap', hcn i0, hsn i0, hn i0, htk i0, hav i0, hlo i0, hmd i0) := ⟨rfl, rfl, rfl, q1, rfl, rfl⟩
  have hrn : RNG R r d T PP (hds, hcs, hmp, hpk, hcap, hcn, hsn, hn, htk, hav, hlo, hmd, rmI ((nI i0 + 8) - 1) 8, nI (stk.length + 1) - 1) stk := by
    refine RNG.cls ⟨k1, (i0 + 7) % 8, by omega, rq8b k2, dq8 (by omega), by omega, fun i U hi => ?_⟩
    have z := k6 (i + 1) U hi
    have hil := (List.getElem?_eq_some_iff.mp hi).1
    rw [show ((i0 + 7) % 8 + 8 - i) % 8 = (i0 + 8 - (i + 1)) % 8 by omega]
    exact z
  obtain ⟨C, X, e3, hC, hS⟩ : ∃ C X, F_L_undo ((ds, cs, mp, pk, cap, cn, sn, n, tk, av, lo, md), (ds_t, cs_t, mp_t, pk_t, cap_t, cn_t, sn_t, n_t, tk_t, av_t, lo_t, md_t), (ds_s, cs_s, mp_s, pk_s, cap_s, cn_s, sn_s, n_s, tk_s, av_s, lo_s, md_s), (hds, hcs, hmp, hpk, hcap, hcn, hsn, hn, htk, hav, hlo, hmd, nI i0, nI (stk.length + 1)), wc, wd, sg, ln, pl, ch, nu, wb, capw, wl, wn, isv, lf, kk, kr, kd, kr2, kd2, capE, mc, PP) = (nI (stk.length + 1) - 1, ((hds i0, hcs i0, hmp i0, pk', cap', hcn i0, hsn i0, hn i0, htk i0, hav i0, hlo i0, hmd i0), (ds_t, cs_t, mp_t, pk_t, cap_t, cn_t, sn_t, n_t, tk_t, av_t, lo_t, md_t), (ds_s, cs_s, mp_s, pk_s, cap_s, cn_s, sn_s, n_s, tk_s, av_s, lo_s, md_s), (hds, hcs, hmp, hpk, hcap, hcn, hsn, hn, htk, hav, hlo, hmd, rmI ((nI i0 + 8) - 1) 8, nI (stk.length + 1) - 1), wc, wd, sg, ln, pl, ch, nu, wb, capw, wl, wn, isv, lf, kk, kr, kd, kr2, kd2, capE, mc, PP), C, X) ∧ C ≤ c + 4 ∧ X ≤ s + 24 := by
    unfold F_L_undo
    simp only [FF_X10_undo]
    rw [e]
    unfold K_L_undo_1
    simp only [if_true, adc]
    exact ⟨_, _, rfl, by omega, by omega⟩
  obtain ⟨u1, u2, u3⟩ := q4
  rw [e3]
  refine ⟨⟨OKS.put h hrn (GSS.eqn gs e2) q2 (by omega), rfl, dq8 (by omega), EQN.trans e0 e2⟩, ?_, ?_⟩
  · show X + (2 * (cap + cap_t + cap_s + hsum hcap) + 2 * capw + 4 * capE + 10 * PP.length) ≤ 24 + (2 * (cap' + cap_t + cap_s + hsum hcap) + 2 * capw + 4 * capE + 10 * PP.length)
    omega
  · show 320 * C + (5 * (cap + cap_t + cap_s + hsum hcap) + 320 * capw + 64 * capE + 640 * PP.length) ≤ 320 * 4 + (5 * (cap' + cap_t + cap_s + hsum hcap) + 320 * capw + 64 * capE + 640 * PP.length)
    omega
/-- nothing to undo -/
theorem oq_undo0 {R r d T Bd : Nat} {sv : Option SV} {M : MS} (h : OKS R r d T Bd [] sv M) : OQ 4 24 M (F_L_undo M) (fun v N => v = -1001 ∧ N = M) := by
  obtain ⟨⟨ds, cs, mp, pk, cap, cn, sn, n, tk, av, lo, md⟩, ⟨ds_t, cs_t, mp_t, pk_t, cap_t, cn_t, sn_t, n_t, tk_t, av_t, lo_t, md_t⟩, ⟨ds_s, cs_s, mp_s, pk_s, cap_s, cn_s, sn_s, n_s, tk_s, av_s, lo_s, md_s⟩, ⟨hds, hcs, hmp, hpk, hcap, hcn, hsn, hn, htk, hav, hlo, hmd, hla, hct⟩, wc, wd, sg, ln, pl, ch, nu, wb, capw, wl, wn, isv, lf, kk, kr, kd, kr2, kd2, capE, mc, PP⟩ := M
  obtain ⟨hG, hPl, hTr, hSa, hSv, hRg, w⟩ := h
  obtain ⟨k1, i0, k2, k3, k4, k5, k6⟩ := RNG.opn hRg
  replace k4 : hct = 0 := k4
  subst k4
  obtain ⟨C, X, e3, hC, hS⟩ : ∃ C X, F_L_undo ((ds, cs, mp, pk, cap, cn, sn, n, tk, av, lo, md), (ds_t, cs_t, mp_t, pk_t, cap_t, cn_t, sn_t, n_t, tk_t, av_t, lo_t, md_t), (ds_s, cs_s, mp_s, pk_s, cap_s, cn_s, sn_s, n_s, tk_s, av_s, lo_s, md_s), (hds, hcs, hmp, hpk, hcap, hcn, hsn, hn, htk, hav, hlo, hmd, hla, 0), wc, wd, sg, ln, pl, ch, nu, wb, capw, wl, wn, isv, lf, kk, kr, kd, kr2, kd2, capE, mc, PP) = (-1001, ((ds, cs, mp, pk, cap, cn, sn, n, tk, av, lo, md), (ds_t, cs_t, mp_t, pk_t, cap_t, cn_t, sn_t, n_t, tk_t, av_t, lo_t, md_t), (ds_s, cs_s, mp_s, pk_s, cap_s, cn_s, sn_s, n_s, tk_s, av_s, lo_s, md_s), (hds, hcs, hmp, hpk, hcap, hcn, hsn, hn, htk, hav, hlo, hmd, hla, 0), wc, wd, sg, ln, pl, ch, nu, wb, capw, wl, wn, isv, lf, kk, kr, kd, kr2, kd2, capE, mc, PP), C, X) ∧ C ≤ 4 ∧ X ≤ 24 := by
    unfold F_L_undo
    simp only [FF_X10_undo]
    unfold F_X10_undo
    rw [if_pos rfl]
    unfold K_L_undo_1
    simp only [show ¬ (5 : Nat) = 0 from by decide, if_false, adc]
    exact ⟨_, _, rfl, by decide, by decide⟩
  exact OQ.eq e3 ⟨rfl, rfl⟩ hC hS rfl rfl
theorem oq_restore0 {R r d T Bd : Nat} {stk : List SV} {M : MS} (h : OKS R r d T Bd stk none M) : OQ 4 24 M (F_L_restore M) (fun v N => v = -1001 ∧ N = M) := by
  obtain ⟨⟨ds, cs, mp, pk, cap, cn, sn, n, tk, av, lo, md⟩, ⟨ds_t, cs_t, mp_t, pk_t, cap_t, cn_t, sn_t, n_t, tk_t, av_t, lo_t, md_t⟩, ⟨ds_s, cs_s, mp_s, pk_s, cap_s, cn_s, sn_s, n_s, tk_s, av_s, lo_s, md_s⟩, ⟨hds, hcs, hmp, hpk, hcap, hcn, hsn, hn, htk, hav, hlo, hmd, hla, hct⟩, wc, wd, sg, ln, pl, ch, nu, wb, capw, wl, wn, isv, lf, kk, kr, kd, kr2, kd2, capE, mc, PP⟩ := M
  obtain ⟨hG, hPl, hTr, hSa, hSv, hRg, w⟩ := h
  replace hSv : isv = 0 := hSv
  subst hSv
  obtain ⟨C, X, e3, hC, hS⟩ : ∃ C X, F_L_restore ((ds, cs, mp, pk, cap, cn, sn, n, tk, av, lo, md), (ds_t, cs_t, mp_t, pk_t, cap_t, cn_t, sn_t, n_t, tk_t, av_t, lo_t, md_t), (ds_s, cs_s, mp_s, pk_s, cap_s, cn_s, sn_s, n_s, tk_s, av_s, lo_s, md_s), (hds, hcs, hmp, hpk, hcap, hcn, hsn, hn, htk, hav, hlo, hmd, hla, hct), wc, wd, sg, ln, pl, ch, nu, wb, capw, wl, wn, 0, lf, kk, kr, kd, kr2, kd2, capE, mc, PP) = (-1001, ((ds, cs, mp, pk, cap, cn, sn, n, tk, av, lo, md), (ds_t, cs_t, mp_t, pk_t, cap_t, cn_t, sn_t, n_t, tk_t, av_t, lo_t, md_t), (ds_s, cs_s, mp_s, pk_s, cap_s, cn_s, sn_s, n_s, tk_s, av_s, lo_s, md_s), (hds, hcs, hmp, hpk, hcap, hcn, hsn, hn, htk, hav, hlo, hmd, hla, hct), wc, wd, sg, ln, pl, ch, nu, wb, capw, wl, wn, 0, lf, kk, kr, kd, kr2, kd2, capE, mc, PP), C, X) ∧ C ≤ 4 ∧ X ≤ 24 := by
    unfold F_L_restore
    simp only [FF_X10_restore]
    unfold F_X10_restore
    rw [if_pos rfl]
    unfold K_L_restore_1
    simp only [show ¬ (5 : Nat) = 0 from by decide, if_false, adc]
    exact ⟨_, _, rfl, by decide, by decide⟩
  exact OQ.eq e3 ⟨rfl, rfl⟩ hC hS rfl rfl
theorem oq_restore {R r d T Bd : Nat} {S : SV} {stk : List SV} {M : MS} (h : OKS R r d T Bd stk (some S) M) (hr : r ≤ R) (hR : R ≤ 32) (hd : d ≤ 100000) (hT : T < 500000) : OQ 4 24 M (F_L_restore M) (fun v N => OKS R r d T Bd [] (some S) N ∧ arch N = arch M ∧ v = nS S ∧ EQN S N.1) := by
  obtain ⟨⟨ds, cs, mp, pk, cap, cn, sn, n, tk, av, lo, md⟩, ⟨ds_t, cs_t, mp_t, pk_t, cap_t, cn_t, sn_t, n_t, tk_t, av_t, lo_t, md_t⟩, ⟨ds_s, cs_s, mp_s, pk_s, cap_s, cn_s, sn_s, n_s, tk_s, av_s, lo_s, md_s⟩, ⟨hds, hcs, hmp, hpk, hcap, hcn, hsn, hn, htk, hav, hlo, hmd, hla, hct⟩, wc, wd, sg, ln, pl, ch, nu, wb, capw, wl, wn, isv, lf, kk, kr, kd, kr2, kd2, capE, mc, PP⟩ := M
  have h9 := h
  obtain ⟨hG, hPl, hTr, hSa, ⟨v1, v2, v3⟩, hRg, w⟩ := h9
  obtain ⟨z1, z2, z3, z4, z5, N9, hN, en⟩ := gv_z hG hr hd hT
  have hB := BR_le hR
  have hL : LBB = 72420 := rfl
  obtain ⟨s1, s2, s3, s4, s5⟩ := hSa
  have gs := GSS.eqn v3 v2
  have gcn := GSS.cn gs hr hd hT
  replace gcn : 0 ≤ cn_s.toInt ∧ cn_s.toInt ≤ BR R := gcn
  have hcap0 := hG.2.1
  have hcap1 := hG.2.2.2
  obtain ⟨c1, c2, c3, c4⟩ := hcap0
  obtain ⟨cap', pk', c, s, e, q1, q2, q3, q4⟩ := restore_spec (ds := ds) (cs := cs) (mp := mp) pk (cap := cap) cn sn n tk av lo md hct (isv := isv) (ds_s := ds_s) (cs_s := cs_s) (mp_s := mp_s) pk_s (cn_s := cn_s) sn_s n_s tk_s av_s lo_s md_s v1 z1 z2 z3 s1 s2 s3 gcn.1 (by omega) c3 (by omega)
  have e2 : EQN (ds_s, cs_s, mp_s, pk_s, cap_s, cn_s, sn_s, n_s, tk_s, av_s, lo_s, md_s) (ds_s, cs_s, mp_s, pk', cap', cn_s, sn_s, n_s, tk_s, av_s, lo_s, md_s) := ⟨rfl, rfl, rfl, q1, rfl, rfl⟩
  have hrn : RNG R r d T PP (hds, hcs, hmp, hpk, hcap, hcn, hsn, hn, htk, hav, hlo, hmd, hla, 0) [] := by
    obtain ⟨k1, i0, k2, k3, k4, k5, k6⟩ := RNG.opn hRg
    exact RNG.cls ⟨k1, i0, k2, k3, rfl, by decide, fun i U hi => by simp at hi⟩
  obtain ⟨C, X, e3, hC, hS⟩ : ∃ C X, F_L_restore ((ds, cs, mp, pk, cap, cn, sn, n, tk, av, lo, md), (ds_t, cs_t, mp_t, pk_t, cap_t, cn_t, sn_t, n_t, tk_t, av_t, lo_t, md_t), (ds_s, cs_s, mp_s, pk_s, cap_s, cn_s, sn_s, n_s, tk_s, av_s, lo_s, md_s), (hds, hcs, hmp, hpk, hcap, hcn, hsn, hn, htk, hav, hlo, hmd, hla, hct), wc, wd, sg, ln, pl, ch, nu, wb, capw, wl, wn, isv, lf, kk, kr, kd, kr2, kd2, capE, mc, PP) = (n_s, ((ds_s, cs_s, mp_s, pk', cap', cn_s, sn_s, n_s, tk_s, av_s, lo_s, md_s), (ds_t, cs_t, mp_t, pk_t, cap_t, cn_t, sn_t, n_t, tk_t, av_t, lo_t, md_t), (ds_s, cs_s, mp_s, pk_s, cap_s, cn_s, sn_s, n_s, tk_s, av_s, lo_s, md_s), (hds, hcs, hmp, hpk, hcap, hcn, hsn, hn, htk, hav, hlo, hmd, hla, 0), wc, wd, sg, ln, pl, ch, nu, wb, capw, wl, wn, isv, lf, kk, kr, kd, kr2, kd2, capE, mc, PP), C, X) ∧ C ≤ c + 4 ∧ X ≤ s + 24 := by
    unfold F_L_restore
    simp only [FF_X10_restore]
    rw [e]
    unfold K_L_restore_1
    simp only [if_true, adc]
    exact ⟨_, _, rfl, by omega, by omega⟩
  have en9 : n_s = nS S := by
    obtain ⟨_, _, _, _, _, e6⟩ := v2
    exact (congrArg (fun x => x.2.1) e6).symm
  obtain ⟨u1, u2, u3⟩ := q4
  rw [e3]
  refine ⟨⟨OKS.put h hrn (GSS.eqn gs e2) q2 (by omega), rfl, en9, EQN.trans v2 e2⟩, ?_, ?_⟩
  · show X + (2 * (cap + cap_t + cap_s + hsum hcap) + 2 * capw + 4 * capE + 10 * PP.length) ≤ 24 + (2 * (cap' + cap_t + cap_s + hsum hcap) + 2 * capw + 4 * capE + 10 * PP.length)
    omega
  · show 320 * C + (5 * (cap + cap_t + cap_s + hsum hcap) + 320 * capw + 64 * capE + 640 * PP.length) ≤ 320 * 4 + (5 * (cap' + cap_t + cap_s + hsum hcap) + 320 * capw + 64 * capE + 640 * PP.length)
    omega
theorem oq_save {R r d T Bd : Nat} {stk : List SV} {sv : Option SV} {M : MS} (h : OKS R r d T Bd stk sv M) (hr : r ≤ R) (hR : R ≤ 32) (hd : d ≤ 100000) (hT : T < 500000) : (FF_X10_save M).1 = nS M.1 ∧ OQ 4 24 M ((FF_X10_save M).1, T_X10_save M (FF_X10_save M), (FF_X10_save M).2.2.2.2.2.2.2.2.2.2.2.2.2.2.1, (FF_X10_save M).2.2.2.2.2.2.2.2.2.2.2.2.2.2.2) (fun _ N => OKS R r d T Bd stk (some M.1) N ∧ arch N = arch M ∧ N.1 = M.1) := by
  obtain ⟨⟨ds, cs, mp, pk, cap, cn, sn, n, tk, av, lo, md⟩, ⟨ds_t, cs_t, mp_t, pk_t, cap_t, cn_t, sn_t, n_t, tk_t, av_t, lo_t, md_t⟩, ⟨ds_s, cs_s, mp_s, pk_s, cap_s, cn_s, sn_s, n_s, tk_s, av_s, lo_s, md_s⟩, ⟨hds, hcs, hmp, hpk, hcap, hcn, hsn, hn, htk, hav, hlo, hmd, hla, hct⟩, wc, wd, sg, ln, pl, ch, nu, wb, capw, wl, wn, isv, lf, kk, kr, kd, kr2, kd2, capE, mc, PP⟩ := M
  have h9 := h
  obtain ⟨hG, hPl, hTr, hSa, hSv, hRg, w⟩ := h9
  obtain ⟨z1, z2, z3, z4, z5, N9, hN, en⟩ := gv_z hG hr hd hT
  have hB := BR_le hR
  have hL : LBB = 72420 := rfl
  obtain ⟨s1, s2, s3, s4, s5⟩ := hSa
  replace s4 : 64 ≤ cap_s := s4
  replace s5 : cap_s ≤ 2 * BR R + 64 := s5
  obtain ⟨cap', pk', c, s, e, q1, q2, q3, q4⟩ := save_spec (ds := ds) (cs := cs) (mp := mp) pk (cn := cn) sn n tk av lo md (ds_s := ds_s) (cs_s := cs_s) (mp_s := mp_s) pk_s (cap_s := cap_s) s1 s2 s3 z1 z2 z3 z4 (by omega) s4 (by omega)
  have e2 : EQN (ds, cs, mp, pk, cap, cn, sn, n, tk, av, lo, md) (ds, cs, mp, pk', cap', cn, sn, n, tk, av, lo, md) := ⟨rfl, rfl, rfl, q1, rfl, rfl⟩
  have e3 : FF_X10_save ((ds, cs, mp, pk, cap, cn, sn, n, tk, av, lo, md), (ds_t, cs_t, mp_t, pk_t, cap_t, cn_t, sn_t, n_t, tk_t, av_t, lo_t, md_t), (ds_s, cs_s, mp_s, pk_s, cap_s, cn_s, sn_s, n_s, tk_s, av_s, lo_s, md_s), (hds, hcs, hmp, hpk, hcap, hcn, hsn, hn, htk, hav, hlo, hmd, hla, hct), wc, wd, sg, ln, pl, ch, nu, wb, capw, wl, wn, isv, lf, kk, kr, kd, kr2, kd2, capE, mc, PP) = (n, ds, cs, mp, cap', pk', cn, sn, n, tk, av, lo, md, 1, c, s) := e
  rw [e3]
  obtain ⟨u1, u2, u3⟩ := q4
  refine ⟨rfl, ⟨⟨hG, hPl, hTr, ⟨z1, z2, z3, q2.2.2.1, ?_⟩, ⟨show ¬ (1 : Int32) = 0 from by decide, e2, hG.1⟩, hRg, w⟩, rfl, rfl⟩, ?_, ?_⟩
  · show cap' ≤ 2 * BR R + 64
    omega
  · show s + (2 * (cap + cap_t + cap_s + hsum hcap) + 2 * capw + 4 * capE + 10 * PP.length) ≤ 24 + (2 * (cap + cap_t + cap' + hsum hcap) + 2 * capw + 4 * capE + 10 * PP.length)
    omega
  · show 320 * c + (5 * (cap + cap_t + cap_s + hsum hcap) + 320 * capw + 64 * capE + 640 * PP.length) ≤ 320 * 4 + (5 * (cap + cap_t + cap' + hsum hcap) + 320 * capw + 64 * capE + 640 * PP.length)
    omega
