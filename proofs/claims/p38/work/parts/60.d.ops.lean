/-! THE SIX CHANGES OVER THE WHOLE STATE -/
theorem gv_cs {R r d T : Nat} {capE : Nat} {PP : List PG} {ds cs mp pk : Nat → Int32} {cap : Nat} {cn n tk : Int32} (h : GV R r d T capE PP ds cs mp pk cap cn n tk) (i : Nat) : 0 ≤ (cs i).toInt := by
  obtain ⟨⟨M, lt, N, f, g1, g2, g3, g4, _⟩, _⟩ := h
  exact (g4 i).1
theorem gv_ds {R r d T : Nat} {capE : Nat} {PP : List PG} {ds cs mp pk : Nat → Int32} {cap : Nat} {cn n tk : Int32} (h : GV R r d T capE PP ds cs mp pk cap cn n tk) (i : Nat) (hi : i < 6) : 0 ≤ (ds i).toInt ∧ (ds i).toInt ≤ 2 := by
  obtain ⟨⟨M, lt, N, f, g1, g2, g3, g4, g5, g6, g7, g8, _⟩, _⟩ := h
  exact g8 i hi
theorem GV.mono {R r d T r' d' T' : Nat} {capE : Nat} {PP : List PG} {ds cs mp pk : Nat → Int32} {cap : Nat} {cn n tk : Int32} (h : GV R r d T capE PP ds cs mp pk cap cn n tk) (hr : r ≤ r') (hd : d ≤ d') (hT : T ≤ T') : GV R r' d' T' capE PP ds cs mp pk cap cn n tk := by
  obtain ⟨⟨M, lt, N, f, g1, g2, g3, g4, g5, g6, g7, g8, g10, g11, g12, goz⟩, h2⟩ := h
  exact ⟨⟨M, lt, N, f, g1, g2, g3, g4, g5, g6, g7, g8, LJ.mono g10 (fun _ _ => Nat.le_refl _) hd, fun X => by have := g11 X; omega, by omega, goz⟩, h2⟩
theorem oq_come {R r d T Bd : Nat} {stk : List SV} {sv : Option SV} {M : MS} (h : OKS R r d T Bd stk sv M) (hr0 : 1 ≤ R) (hr : r ≤ R) (hR : R ≤ 32) (hd : d ≤ 100000) (hT : T + 99 < 500000) (hB : Bd ≤ 870000) (hag : (F_X8_against_ad0 (nS M.1)).1 = 0) : OQ 20 100 M (F_L_come M) (fun v N => OKS R (max r 1) (d + 1) T (Bd + 6) (M.1 :: stk.take 7) sv N ∧ (∃ Q, arch N = arch M ++ Q) ∧ v = nS M.1 ∧ N.1.1 = M.1.1 ∧ N.1.2.1 = M.1.2.1 ∧ nS N.1 = nS M.1 + 1 ∧ tkS N.1 = tkS M.1 ∧ mdS N.1 = mdS M.1 + 1) := by
  obtain ⟨⟨ds, cs, mp, pk, cap, cn, sn, n, tk, av, lo, md⟩, ⟨ds_t, cs_t, mp_t, pk_t, cap_t, cn_t, sn_t, n_t, tk_t, av_t, lo_t, md_t⟩, ⟨ds_s, cs_s, mp_s, pk_s, cap_s, cn_s, sn_s, n_s, tk_s, av_s, lo_s, md_s⟩, ⟨hds, hcs, hmp, hpk, hcap, hcn, hsn, hn, htk, hav, hlo, hmd, hla, hct⟩, wc, wd, sg, ln, pl, ch, nu, wb, capw, wl, wn, isv, lf, kk, kr, kd, kr2, kd2, capE, mc, PP⟩ := M
  have h9 := h
  obtain ⟨hG, hPl, hTr, hSa, hSv, hRg, w1, w2, w3, w4, w5⟩ := h9
  obtain ⟨z1, z2, z3, z4, z5, N9, hN, en⟩ := gv_z hG (show r ≤ R by omega) hd (by omega)
  replace hag : (F_X8_against_ad0 n).1 = 0 := hag
  obtain ⟨j, cap9, pk9, ck, sk, hj, ek, hcc, hrn⟩ := RNG.keep hRg (ds := ds) (cs := cs) (mp := mp) (pk := pk) (cap := cap) (cn := cn) (sn := sn) (n := n) (tk := tk) (av := av) (lo := lo) (md := md) hG.1 z1 z2 z3 z4 z5 hR
  have hT9 : T < 500000 := by omega
  obtain ⟨capE', mc', mp', cap', pk', cn', sn', md', PP', c, sl, e, g, ⟨Q, q1, q2⟩, co, hmd9⟩ := come_gv mc sn md hG hr hR hd hT9 (by omega) (ag0_ok hag)
  obtain ⟨C, S, e3, hC, hS⟩ : ∃ C S, F_L_come ((ds, cs, mp, pk, cap, cn, sn, n, tk, av, lo, md), (ds_t, cs_t, mp_t, pk_t, cap_t, cn_t, sn_t, n_t, tk_t, av_t, lo_t, md_t), (ds_s, cs_s, mp_s, pk_s, cap_s, cn_s, sn_s, n_s, tk_s, av_s, lo_s, md_s), (hds, hcs, hmp, hpk, hcap, hcn, hsn, hn, htk, hav, hlo, hmd, hla, hct), wc, wd, sg, ln, pl, ch, nu, wb, capw, wl, wn, isv, lf, kk, kr, kd, kr2, kd2, capE, mc, PP) = (n, ((ds, cs, mp', pk', cap', cn', sn', n + 1, tk, av, lo, md'), (ds_t, cs_t, mp_t, pk_t, cap_t, cn_t, sn_t, n_t, tk_t, av_t, lo_t, md_t), (ds_s, cs_s, mp_s, pk_s, cap_s, cn_s, sn_s, n_s, tk_s, av_s, lo_s, md_s), (va_up hds j ds, va_up hcs j cs, va_up hmp j mp, va_up hpk j pk9, va_up hcap j cap9, va_up hcn j cn, va_up hsn j sn, va_up hn j n, va_up htk j tk, va_up hav j av, va_up hlo j lo, va_up hmd j md, rmI (hla + 1) 8, inI (hct + 1) 8), wc, wd, sg, ln, pl, ch, nu, wb, capw, wl, wn, isv, lf, kk, kr, kd, kr2, kd2, capE', mc', PP'), C, S) ∧ C ≤ ck + c + 20 ∧ S ≤ sk + sl + 100 := by
    unfold F_L_come
    simp only [FF_X10_come]
    unfold F_X10_come
    generalize hX : F_X10_change_ad0 capE PP mc ds cs mp pk cap cn sn n tk av lo md hds hcs hmp hpk hcap hcn hsn hn htk hav hlo hmd hla hct = X
    unfold F_X10_change_ad0 at hX
    rw [if_pos hag, ek] at hX
    unfold K_X10_change_24 F_X8_carryOut_ad0 at hX
    simp only [] at hX
    rw [e] at hX
    subst hX
    unfold K_L_come_1 K_X10_change_36 K_X8_carryOut_45
    simp only [if_true, adc]
    exact ⟨_, _, rfl, by omega, by omega⟩
  have hs := hsum_up hcap cap9 hj
  obtain ⟨u1, u2, u3⟩ := hcc
  obtain ⟨v1, v2, v3, v4, v5⟩ := co
  have hPl2 : PP'.length = PP.length + Q.length := by rw [q1, List.length_append]
  rw [e3]
  refine ⟨⟨OKS.step h hrn g ⟨Q, q1⟩ (by omega) (by omega) (by omega) (by omega) (by omega), ⟨Q, q1⟩, rfl, rfl, rfl, rfl, rfl, hmd9⟩, ?_, ?_⟩
  · show S + (2 * (cap + cap_t + cap_s + hsum hcap) + 2 * capw + 4 * capE + 10 * PP.length) ≤ 100 + (2 * (cap' + cap_t + cap_s + hsum (va_up hcap j cap9)) + 2 * capw + 4 * capE' + 10 * PP'.length)
    omega
  · show 320 * C + (5 * (cap + cap_t + cap_s + hsum hcap) + 320 * capw + 64 * capE + 640 * PP.length) ≤ 320 * 20 + (5 * (cap' + cap_t + cap_s + hsum (va_up hcap j cap9)) + 320 * capw + 64 * capE' + 640 * PP'.length)
    omega
theorem oq_canal {R r d T Bd : Nat} {stk : List SV} {sv : Option SV} {M : MS} (a b v9 : Int32) (h : OKS R r d T Bd stk sv M) (hr : r + 1 ≤ R) (hR : R ≤ 32) (hd : d ≤ 100000) (hT : T + 99 < 500000) (hB : Bd ≤ 870000) (hag : (F_X8_against_ad1 M.1.2.1 (nS M.1) a b v9).1 = 0) : OQ 20 100 M (F_L_canal M a b v9) (fun v N => OKS R (r + 1) (d + 2) T (Bd + 6) (M.1 :: stk.take 7) sv N ∧ (∃ Q, arch N = arch M ++ Q) ∧ ∃ x y : Nat, x < 6 ∧ y < 6 ∧ x ≠ y ∧ a = nI x ∧ b = nI y ∧ v = M.1.2.1 (6 * x + y) ∧ 0 ≤ v.toInt ∧ N.1.1 = M.1.1 ∧ N.1.2.1 = csU M.1.2.1 x y v9 ∧ nS N.1 = nS M.1 ∧ tkS N.1 = tkS M.1 ∧ (M.1.1 x = M.1.1 y → mdS N.1 = mdS M.1 + 1 + 1)) := by
  obtain ⟨⟨ds, cs, mp, pk, cap, cn, sn, n, tk, av, lo, md⟩, ⟨ds_t, cs_t, mp_t, pk_t, cap_t, cn_t, sn_t, n_t, tk_t, av_t, lo_t, md_t⟩, ⟨ds_s, cs_s, mp_s, pk_s, cap_s, cn_s, sn_s, n_s, tk_s, av_s, lo_s, md_s⟩, ⟨hds, hcs, hmp, hpk, hcap, hcn, hsn, hn, htk, hav, hlo, hmd, hla, hct⟩, wc, wd, sg, ln, pl, ch, nu, wb, capw, wl, wn, isv, lf, kk, kr, kd, kr2, kd2, capE, mc, PP⟩ := M
  have h9 := h
  obtain ⟨hG, hPl, hTr, hSa, hSv, hRg, w1, w2, w3, w4, w5⟩ := h9
  obtain ⟨z1, z2, z3, z4, z5, N9, hN, en⟩ := gv_z hG (show r ≤ R by omega) hd (by omega)
  subst en
  replace hag : (F_X8_against_ad1 cs (nI N9) a b v9).1 = 0 := hag
  obtain ⟨x, y, hx, hy, hxy, rfl, rfl, hv0, hv9⟩ := ag1_ok hN hag
  obtain ⟨j, cap9, pk9, ck, sk, hj, ek, hcc, hrn⟩ := RNG.keep hRg (ds := ds) (cs := cs) (mp := mp) (pk := pk) (cap := cap) (cn := cn) (sn := sn) (n := (nI N9)) (tk := tk) (av := av) (lo := lo) (md := md) hG.1 z1 z2 z3 z4 z5 hR
  have hT9 : T < 500000 := by omega
  obtain ⟨capE', mc', mp', cap', pk', cn', sn', md', PP', c, sl, e, g, ⟨Q, q1, q2⟩, co, hmd9⟩ := canal_gv mc sn md hG (by omega) hR hd hT9 (by omega) (a := x) (b := y) (by rw [nI_toInt (by omega)]; omega) (by rw [nI_toInt (by omega)]; omega) hxy hv0 hv9
  obtain ⟨C, S, e3, hC, hS⟩ : ∃ C S, F_L_canal ((ds, cs, mp, pk, cap, cn, sn, nI N9, tk, av, lo, md), (ds_t, cs_t, mp_t, pk_t, cap_t, cn_t, sn_t, n_t, tk_t, av_t, lo_t, md_t), (ds_s, cs_s, mp_s, pk_s, cap_s, cn_s, sn_s, n_s, tk_s, av_s, lo_s, md_s), (hds, hcs, hmp, hpk, hcap, hcn, hsn, hn, htk, hav, hlo, hmd, hla, hct), wc, wd, sg, ln, pl, ch, nu, wb, capw, wl, wn, isv, lf, kk, kr, kd, kr2, kd2, capE, mc, PP) (nI x) (nI y) v9 = (cs (6 * x + y), ((ds, csU cs x y v9, mp', pk', cap', cn', sn', nI N9, tk, av, lo, md'), (ds_t, cs_t, mp_t, pk_t, cap_t, cn_t, sn_t, n_t, tk_t, av_t, lo_t, md_t), (ds_s, cs_s, mp_s, pk_s, cap_s, cn_s, sn_s, n_s, tk_s, av_s, lo_s, md_s), (va_up hds j ds, va_up hcs j cs, va_up hmp j mp, va_up hpk j pk9, va_up hcap j cap9, va_up hcn j cn, va_up hsn j sn, va_up hn j (nI N9), va_up htk j tk, va_up hav j av, va_up hlo j lo, va_up hmd j md, rmI (hla + 1) 8, inI (hct + 1) 8), wc, wd, sg, ln, pl, ch, nu, wb, capw, wl, wn, isv, lf, kk, kr, kd, kr2, kd2, capE', mc', PP'), C, S) ∧ C ≤ ck + c + 20 ∧ S ≤ sk + sl + 100 := by
    unfold F_L_canal
    simp only [FF_X10_canal]
    unfold F_X10_canal
    generalize hX : F_X10_change_ad1 capE PP mc ds cs mp pk cap cn sn (nI N9) tk av lo md hds hcs hmp hpk hcap hcn hsn hn htk hav hlo hmd hla hct (nI x) (nI y) v9 = X
    unfold F_X10_change_ad1 at hX
    rw [if_pos hag, ek] at hX
    unfold K_X10_change_24_1 F_X8_carryOut_ad1 at hX
    simp only [] at hX
    rw [e] at hX
    subst hX
    unfold K_L_canal_4 K_X10_change_36_1 K_X8_carryOut_54
    simp only [if_true, adc]
    exact ⟨_, _, rfl, by omega, by omega⟩
  have hs := hsum_up hcap cap9 hj
  obtain ⟨u1, u2, u3⟩ := hcc
  obtain ⟨v1, v2, v3, v4, v5⟩ := co
  have hPl2 : PP'.length = PP.length + Q.length := by rw [q1, List.length_append]
  rw [e3]
  refine ⟨⟨OKS.step h hrn g ⟨Q, q1⟩ (by omega) (by omega) (by omega) (by omega) (by omega), ⟨Q, q1⟩, x, y, by omega, by omega, hxy, rfl, rfl, rfl, gv_cs hG _, rfl, rfl, rfl, rfl, hmd9⟩, ?_, ?_⟩
  · show S + (2 * (cap + cap_t + cap_s + hsum hcap) + 2 * capw + 4 * capE + 10 * PP.length) ≤ 100 + (2 * (cap' + cap_t + cap_s + hsum (va_up hcap j cap9)) + 2 * capw + 4 * capE' + 10 * PP'.length)
    omega
  · show 320 * C + (5 * (cap + cap_t + cap_s + hsum hcap) + 320 * capw + 64 * capE + 640 * PP.length) ≤ 320 * 20 + (5 * (cap' + cap_t + cap_s + hsum (va_up hcap j cap9)) + 320 * capw + 64 * capE' + 640 * PP'.length)
    omega
theorem oq_close {R r d T Bd : Nat} {stk : List SV} {sv : Option SV} {M : MS} (a b : Int32) (h : OKS R r d T Bd stk sv M) (hr : r + 1 ≤ R) (hR : R ≤ 32) (hd : d ≤ 100000) (hT : T + 99 < 500000) (hB : Bd ≤ 870000) (hag : (F_X8_against_ad2 M.1.2.1 (nS M.1) a b).1 = 0) : OQ 20 100 M (F_L_close M a b) (fun v N => OKS R (r + 1) (d + 2) T (Bd + 6) (M.1 :: stk.take 7) sv N ∧ (∃ Q, arch N = arch M ++ Q) ∧ 0 ≤ v.toInt) := by
  obtain ⟨⟨ds, cs, mp, pk, cap, cn, sn, n, tk, av, lo, md⟩, ⟨ds_t, cs_t, mp_t, pk_t, cap_t, cn_t, sn_t, n_t, tk_t, av_t, lo_t, md_t⟩, ⟨ds_s, cs_s, mp_s, pk_s, cap_s, cn_s, sn_s, n_s, tk_s, av_s, lo_s, md_s⟩, ⟨hds, hcs, hmp, hpk, hcap, hcn, hsn, hn, htk, hav, hlo, hmd, hla, hct⟩, wc, wd, sg, ln, pl, ch, nu, wb, capw, wl, wn, isv, lf, kk, kr, kd, kr2, kd2, capE, mc, PP⟩ := M
  have h9 := h
  obtain ⟨hG, hPl, hTr, hSa, hSv, hRg, w1, w2, w3, w4, w5⟩ := h9
  obtain ⟨z1, z2, z3, z4, z5, N9, hN, en⟩ := gv_z hG (show r ≤ R by omega) hd (by omega)
  subst en
  replace hag : (F_X8_against_ad2 cs (nI N9) a b).1 = 0 := hag
  obtain ⟨x, y, hx, hy, hxy, rfl, rfl⟩ := ag2_ok hN hag
  obtain ⟨j, cap9, pk9, ck, sk, hj, ek, hcc, hrn⟩ := RNG.keep hRg (ds := ds) (cs := cs) (mp := mp) (pk := pk) (cap := cap) (cn := cn) (sn := sn) (n := (nI N9)) (tk := tk) (av := av) (lo := lo) (md := md) hG.1 z1 z2 z3 z4 z5 hR
  have hT9 : T < 500000 := by omega
  obtain ⟨capE', mc', mp', cap', pk', cn', sn', md', PP', c, sl, e, g, ⟨Q, q1, q2⟩, co, hmd9⟩ := canal_gv mc sn md hG (by omega) hR hd hT9 (by omega) (a := x) (b := y) (by rw [nI_toInt (by omega)]; omega) (by rw [nI_toInt (by omega)]; omega) hxy (v := 0) (by decide) (by decide)
  obtain ⟨C, S, e3, hC, hS⟩ : ∃ C S, F_L_close ((ds, cs, mp, pk, cap, cn, sn, nI N9, tk, av, lo, md), (ds_t, cs_t, mp_t, pk_t, cap_t, cn_t, sn_t, n_t, tk_t, av_t, lo_t, md_t), (ds_s, cs_s, mp_s, pk_s, cap_s, cn_s, sn_s, n_s, tk_s, av_s, lo_s, md_s), (hds, hcs, hmp, hpk, hcap, hcn, hsn, hn, htk, hav, hlo, hmd, hla, hct), wc, wd, sg, ln, pl, ch, nu, wb, capw, wl, wn, isv, lf, kk, kr, kd, kr2, kd2, capE, mc, PP) (nI x) (nI y) = (cs (6 * x + y), ((ds, csU cs x y 0, mp', pk', cap', cn', sn', nI N9, tk, av, lo, md'), (ds_t, cs_t, mp_t, pk_t, cap_t, cn_t, sn_t, n_t, tk_t, av_t, lo_t, md_t), (ds_s, cs_s, mp_s, pk_s, cap_s, cn_s, sn_s, n_s, tk_s, av_s, lo_s, md_s), (va_up hds j ds, va_up hcs j cs, va_up hmp j mp, va_up hpk j pk9, va_up hcap j cap9, va_up hcn j cn, va_up hsn j sn, va_up hn j (nI N9), va_up htk j tk, va_up hav j av, va_up hlo j lo, va_up hmd j md, rmI (hla + 1) 8, inI (hct + 1) 8), wc, wd, sg, ln, pl, ch, nu, wb, capw, wl, wn, isv, lf, kk, kr, kd, kr2, kd2, capE', mc', PP'), C, S) ∧ C ≤ ck + c + 20 ∧ S ≤ sk + sl + 100 := by
    unfold F_L_close
    simp only [FF_X10_close]
    unfold F_X10_close
    generalize hX : F_X10_change_ad2 capE PP mc ds cs mp pk cap cn sn (nI N9) tk av lo md hds hcs hmp hpk hcap hcn hsn hn htk hav hlo hmd hla hct (nI x) (nI y) = X
    unfold F_X10_change_ad2 at hX
    rw [if_pos hag, ek] at hX
    unfold K_X10_change_24_2 F_X8_carryOut_ad2 at hX
    simp only [] at hX
    rw [e] at hX
    subst hX
    unfold K_L_close_3 K_X10_change_36_2 K_X8_carryOut_62
    simp only [if_true, adc]
    exact ⟨_, _, rfl, by omega, by omega⟩
  have hs := hsum_up hcap cap9 hj
  obtain ⟨u1, u2, u3⟩ := hcc
  obtain ⟨v1, v2, v3, v4, v5⟩ := co
  have hPl2 : PP'.length = PP.length + Q.length := by rw [q1, List.length_append]
  rw [e3]
  refine ⟨⟨OKS.step h hrn g ⟨Q, q1⟩ (by omega) (by omega) (by omega) (by omega) (by omega), ⟨Q, q1⟩, gv_cs hG _⟩, ?_, ?_⟩
  · show S + (2 * (cap + cap_t + cap_s + hsum hcap) + 2 * capw + 4 * capE + 10 * PP.length) ≤ 100 + (2 * (cap' + cap_t + cap_s + hsum (va_up hcap j cap9)) + 2 * capw + 4 * capE' + 10 * PP'.length)
    omega
  · show 320 * C + (5 * (cap + cap_t + cap_s + hsum hcap) + 320 * capw + 64 * capE + 640 * PP.length) ≤ 320 * 20 + (5 * (cap' + cap_t + cap_s + hsum (va_up hcap j cap9)) + 320 * capw + 64 * capE' + 640 * PP'.length)
    omega
theorem oq_district {R r d T Bd : Nat} {stk : List SV} {sv : Option SV} {M : MS} (a v9 : Int32) (h : OKS R r d T Bd stk sv M) (hr : r + 1 ≤ R) (hR : R ≤ 32) (hd : d ≤ 100000) (hT : T + 99 < 500000) (hB : Bd ≤ 870000) (hag : (F_X8_against_ad3 M.1.1 (nS M.1) a v9).1 = 0) : OQ 20 100 M (F_L_district M a v9) (fun v N => OKS R (r + 1) (d + 6) T (Bd + 6) (M.1 :: stk.take 7) sv N ∧ (∃ Q, arch N = arch M ++ Q) ∧ ∃ x : Nat, x < 6 ∧ a = nI x ∧ v = M.1.1 x ∧ 0 ≤ v.toInt ∧ nS N.1 = nS M.1) := by
  obtain ⟨⟨ds, cs, mp, pk, cap, cn, sn, n, tk, av, lo, md⟩, ⟨ds_t, cs_t, mp_t, pk_t, cap_t, cn_t, sn_t, n_t, tk_t, av_t, lo_t, md_t⟩, ⟨ds_s, cs_s, mp_s, pk_s, cap_s, cn_s, sn_s, n_s, tk_s, av_s, lo_s, md_s⟩, ⟨hds, hcs, hmp, hpk, hcap, hcn, hsn, hn, htk, hav, hlo, hmd, hla, hct⟩, wc, wd, sg, ln, pl, ch, nu, wb, capw, wl, wn, isv, lf, kk, kr, kd, kr2, kd2, capE, mc, PP⟩ := M
  have h9 := h
  obtain ⟨hG, hPl, hTr, hSa, hSv, hRg, w1, w2, w3, w4, w5⟩ := h9
  obtain ⟨z1, z2, z3, z4, z5, N9, hN, en⟩ := gv_z hG (show r ≤ R by omega) hd (by omega)
  subst en
  replace hag : (F_X8_against_ad3 ds (nI N9) a v9).1 = 0 := hag
  obtain ⟨x, hx, rfl, hv0, hv9⟩ := ag3_ok hN hag
  obtain ⟨j, cap9, pk9, ck, sk, hj, ek, hcc, hrn⟩ := RNG.keep hRg (ds := ds) (cs := cs) (mp := mp) (pk := pk) (cap := cap) (cn := cn) (sn := sn) (n := (nI N9)) (tk := tk) (av := av) (lo := lo) (md := md) hG.1 z1 z2 z3 z4 z5 hR
  have hT9 : T < 500000 := by omega
  obtain ⟨capE', mc', mp', cap', pk', cn', sn', lo', md', PP', c, sl, e, g, ⟨Q, q1, q2⟩, co⟩ := move_gv mc sn lo md hG (by omega) hR hd hT9 (by omega) (s := x) (by rw [nI_toInt (by omega)]; omega) hv0 hv9
  obtain ⟨C, S, e3, hC, hS⟩ : ∃ C S, F_L_district ((ds, cs, mp, pk, cap, cn, sn, nI N9, tk, av, lo, md), (ds_t, cs_t, mp_t, pk_t, cap_t, cn_t, sn_t, n_t, tk_t, av_t, lo_t, md_t), (ds_s, cs_s, mp_s, pk_s, cap_s, cn_s, sn_s, n_s, tk_s, av_s, lo_s, md_s), (hds, hcs, hmp, hpk, hcap, hcn, hsn, hn, htk, hav, hlo, hmd, hla, hct), wc, wd, sg, ln, pl, ch, nu, wb, capw, wl, wn, isv, lf, kk, kr, kd, kr2, kd2, capE, mc, PP) (nI x) v9 = (ds x, ((upd ds x v9, cs, mp', pk', cap', cn', sn', nI N9, tk, av, lo', md'), (ds_t, cs_t, mp_t, pk_t, cap_t, cn_t, sn_t, n_t, tk_t, av_t, lo_t, md_t), (ds_s, cs_s, mp_s, pk_s, cap_s, cn_s, sn_s, n_s, tk_s, av_s, lo_s, md_s), (va_up hds j ds, va_up hcs j cs, va_up hmp j mp, va_up hpk j pk9, va_up hcap j cap9, va_up hcn j cn, va_up hsn j sn, va_up hn j (nI N9), va_up htk j tk, va_up hav j av, va_up hlo j lo, va_up hmd j md, rmI (hla + 1) 8, inI (hct + 1) 8), wc, wd, sg, ln, pl, ch, nu, wb, capw, wl, wn, isv, lf, kk, kr, kd, kr2, kd2, capE', mc', PP'), C, S) ∧ C ≤ ck + c + 20 ∧ S ≤ sk + sl + 100 := by
    unfold F_L_district
    simp only [FF_X10_district]
    unfold F_X10_district
    generalize hX : F_X10_change_ad3 capE PP mc ds cs mp pk cap cn sn (nI N9) tk av lo md hds hcs hmp hpk hcap hcn hsn hn htk hav hlo hmd hla hct (nI x) v9 = X
    unfold F_X10_change_ad3 at hX
    rw [if_pos hag, ek] at hX
    unfold K_X10_change_24_3 F_X8_carryOut_ad3 at hX
    simp only [] at hX
    rw [e] at hX
    subst hX
    unfold K_L_district_3 K_X10_change_36_3 K_X8_carryOut_69
    simp only [if_true, adc]
    exact ⟨_, _, rfl, by omega, by omega⟩
  have hs := hsum_up hcap cap9 hj
  obtain ⟨u1, u2, u3⟩ := hcc
  obtain ⟨v1, v2, v3, v4, v5⟩ := co
  have hPl2 : PP'.length = PP.length + Q.length := by rw [q1, List.length_append]
  rw [e3]
  refine ⟨⟨OKS.step h hrn g ⟨Q, q1⟩ (by omega) (by omega) (by omega) (by omega) (by omega), ⟨Q, q1⟩, x, by omega, rfl, rfl, (gv_ds hG x (by omega)).1, rfl⟩, ?_, ?_⟩
  · show S + (2 * (cap + cap_t + cap_s + hsum hcap) + 2 * capw + 4 * capE + 10 * PP.length) ≤ 100 + (2 * (cap' + cap_t + cap_s + hsum (va_up hcap j cap9)) + 2 * capw + 4 * capE' + 10 * PP'.length)
    omega
  · show 320 * C + (5 * (cap + cap_t + cap_s + hsum hcap) + 320 * capw + 64 * capE + 640 * PP.length) ≤ 320 * 20 + (5 * (cap' + cap_t + cap_s + hsum (va_up hcap j cap9)) + 320 * capw + 64 * capE' + 640 * PP'.length)
    omega
theorem oq_lose {R r d T Bd : Nat} {stk : List SV} {sv : Option SV} {M : MS} (h : OKS R r d T Bd stk sv M) (hr : r ≤ R) (hR : R ≤ 32) (hd : d ≤ 100000) (hT : T + 99 < 500000) (hB : Bd ≤ 870000) (hag : (F_X8_against_ad4 (cnS M.1)).1 = 0) : OQ 20 100 M (F_L_lose M) (fun v N => OKS R r d T Bd (M.1 :: stk.take 7) sv N ∧ (∃ Q, arch N = arch M ++ Q) ∧ 0 ≤ v.toInt) := by
  obtain ⟨⟨ds, cs, mp, pk, cap, cn, sn, n, tk, av, lo, md⟩, ⟨ds_t, cs_t, mp_t, pk_t, cap_t, cn_t, sn_t, n_t, tk_t, av_t, lo_t, md_t⟩, ⟨ds_s, cs_s, mp_s, pk_s, cap_s, cn_s, sn_s, n_s, tk_s, av_s, lo_s, md_s⟩, ⟨hds, hcs, hmp, hpk, hcap, hcn, hsn, hn, htk, hav, hlo, hmd, hla, hct⟩, wc, wd, sg, ln, pl, ch, nu, wb, capw, wl, wn, isv, lf, kk, kr, kd, kr2, kd2, capE, mc, PP⟩ := M
  have h9 := h
  obtain ⟨hG, hPl, hTr, hSa, hSv, hRg, w1, w2, w3, w4, w5⟩ := h9
  obtain ⟨z1, z2, z3, z4, z5, N9, hN, en⟩ := gv_z hG (show r ≤ R by omega) hd (by omega)
  replace hag : (F_X8_against_ad4 cn).1 = 0 := hag
  obtain ⟨j, cap9, pk9, ck, sk, hj, ek, hcc, hrn⟩ := RNG.keep hRg (ds := ds) (cs := cs) (mp := mp) (pk := pk) (cap := cap) (cn := cn) (sn := sn) (n := n) (tk := tk) (av := av) (lo := lo) (md := md) hG.1 z1 z2 z3 z4 z5 hR
  have hT9 : T < 500000 := by omega
  obtain ⟨og, pk', cn', e, g, hog⟩ := lose_gv lo hG (ag4_ok hag)
  obtain ⟨C, S, e3, hC, hS⟩ : ∃ C S, F_L_lose ((ds, cs, mp, pk, cap, cn, sn, n, tk, av, lo, md), (ds_t, cs_t, mp_t, pk_t, cap_t, cn_t, sn_t, n_t, tk_t, av_t, lo_t, md_t), (ds_s, cs_s, mp_s, pk_s, cap_s, cn_s, sn_s, n_s, tk_s, av_s, lo_s, md_s), (hds, hcs, hmp, hpk, hcap, hcn, hsn, hn, htk, hav, hlo, hmd, hla, hct), wc, wd, sg, ln, pl, ch, nu, wb, capw, wl, wn, isv, lf, kk, kr, kd, kr2, kd2, capE, mc, PP) = (og, ((ds, cs, mp, pk', cap, cn', sn, n, tk, av, lo + 1, md), (ds_t, cs_t, mp_t, pk_t, cap_t, cn_t, sn_t, n_t, tk_t, av_t, lo_t, md_t), (ds_s, cs_s, mp_s, pk_s, cap_s, cn_s, sn_s, n_s, tk_s, av_s, lo_s, md_s), (va_up hds j ds, va_up hcs j cs, va_up hmp j mp, va_up hpk j pk9, va_up hcap j cap9, va_up hcn j cn, va_up hsn j sn, va_up hn j n, va_up htk j tk, va_up hav j av, va_up hlo j lo, va_up hmd j md, rmI (hla + 1) 8, inI (hct + 1) 8), wc, wd, sg, ln, pl, ch, nu, wb, capw, wl, wn, isv, lf, kk, kr, kd, kr2, kd2, capE, mc, PP), C, S) ∧ C ≤ ck + 0 + 20 ∧ S ≤ sk + 0 + 100 := by
    unfold F_L_lose
    simp only [FF_X10_lose]
    unfold F_X10_lose
    generalize hX : F_X10_change_ad4 PP ds cs mp pk cn sn n tk av lo md hds hcs hmp hpk hcap hcn hsn hn htk hav hlo hmd hla hct = X
    unfold F_X10_change_ad4 at hX
    rw [if_pos hag, ek] at hX
    unfold K_X10_change_24_4 F_X8_carryOut_ad4 at hX
    simp only [] at hX
    rw [e] at hX
    subst hX
    unfold K_L_lose_1 K_X10_change_36_4 K_X8_carryOut_74
    simp only [if_true, adc]
    exact ⟨_, _, rfl, by omega, by omega⟩
  have hs := hsum_up hcap cap9 hj
  obtain ⟨u1, u2, u3⟩ := hcc
  rw [e3]
  refine ⟨⟨OKS.step h hrn g ⟨[], (List.append_nil _).symm⟩ (by omega) (by omega) (by omega) (by omega) (by omega), ⟨[], (List.append_nil _).symm⟩, hog⟩, ?_, ?_⟩
  · show S + (2 * (cap + cap_t + cap_s + hsum hcap) + 2 * capw + 4 * capE + 10 * PP.length) ≤ 100 + (2 * (cap + cap_t + cap_s + hsum (va_up hcap j cap9)) + 2 * capw + 4 * capE + 10 * PP.length)
    omega
  · show 320 * C + (5 * (cap + cap_t + cap_s + hsum hcap) + 320 * capw + 64 * capE + 640 * PP.length) ≤ 320 * 20 + (5 * (cap + cap_t + cap_s + hsum (va_up hcap j cap9)) + 320 * capw + 64 * capE + 640 * PP.length)
    omega
theorem oq_pass {R r d T Bd : Nat} {stk : List SV} {sv : Option SV} {M : MS} (a : Int32) (h : OKS R r d T Bd stk sv M) (hr : r + 2 ≤ R) (hR : R ≤ 32) (hd : d ≤ 100000) (hT : T + 99 < 500000) (hB : Bd ≤ 870000) (hag : (F_X8_against_ad5 a).1 = 0) : OQ 20 100 M (F_L_pass M a) (fun v N => OKS R (r + 2) d (T + 99) (Bd + 594) (M.1 :: stk.take 7) sv N ∧ (∃ Q, arch N = arch M ++ Q) ∧ ∃ t : Nat, a = nI t ∧ v = cnS N.1 ∧ 0 ≤ v.toInt ∧ N.1.1 = M.1.1 ∧ N.1.2.1 = M.1.2.1 ∧ nS N.1 = nS M.1 ∧ (tkS N.1).toInt = (tkS M.1).toInt + t ∧ t ≤ 99) := by
  obtain ⟨⟨ds, cs, mp, pk, cap, cn, sn, n, tk, av, lo, md⟩, ⟨ds_t, cs_t, mp_t, pk_t, cap_t, cn_t, sn_t, n_t, tk_t, av_t, lo_t, md_t⟩, ⟨ds_s, cs_s, mp_s, pk_s, cap_s, cn_s, sn_s, n_s, tk_s, av_s, lo_s, md_s⟩, ⟨hds, hcs, hmp, hpk, hcap, hcn, hsn, hn, htk, hav, hlo, hmd, hla, hct⟩, wc, wd, sg, ln, pl, ch, nu, wb, capw, wl, wn, isv, lf, kk, kr, kd, kr2, kd2, capE, mc, PP⟩ := M
  have h9 := h
  obtain ⟨hG, hPl, hTr, hSa, hSv, hRg, w1, w2, w3, w4, w5⟩ := h9
  obtain ⟨z1, z2, z3, z4, z5, N9, hN, en⟩ := gv_z hG (show r ≤ R by omega) hd (by omega)
  subst en
  replace hag : (F_X8_against_ad5 a).1 = 0 := hag
  obtain ⟨t, rfl, ht1, ht9⟩ := ag5_ok hag
  obtain ⟨j, cap9, pk9, ck, sk, hj, ek, hcc, hrn⟩ := RNG.keep hRg (ds := ds) (cs := cs) (mp := mp) (pk := pk) (cap := cap) (cn := cn) (sn := sn) (n := (nI N9)) (tk := tk) (av := av) (lo := lo) (md := md) hG.1 z1 z2 z3 z4 z5 hR
  have hT9 : T < 500000 := by omega
  obtain ⟨capE', mc', mp', cap', pk', cn', sn', tk', av', lo', md', PP', c, sl, e, g, ⟨Q, q1, q2⟩, co, hmd9⟩ := pass_gv mc sn av lo md hG (by omega) hR hd (by omega) (by omega) (t := t) ht9 (Nat.le_refl _)
  obtain ⟨C, S, e3, hC, hS⟩ : ∃ C S, F_L_pass ((ds, cs, mp, pk, cap, cn, sn, nI N9, tk, av, lo, md), (ds_t, cs_t, mp_t, pk_t, cap_t, cn_t, sn_t, n_t, tk_t, av_t, lo_t, md_t), (ds_s, cs_s, mp_s, pk_s, cap_s, cn_s, sn_s, n_s, tk_s, av_s, lo_s, md_s), (hds, hcs, hmp, hpk, hcap, hcn, hsn, hn, htk, hav, hlo, hmd, hla, hct), wc, wd, sg, ln, pl, ch, nu, wb, capw, wl, wn, isv, lf, kk, kr, kd, kr2, kd2, capE, mc, PP) (nI t) = (cn', ((ds, cs, mp', pk', cap', cn', sn', nI N9, tk', av', lo', md'), (ds_t, cs_t, mp_t, pk_t, cap_t, cn_t, sn_t, n_t, tk_t, av_t, lo_t, md_t), (ds_s, cs_s, mp_s, pk_s, cap_s, cn_s, sn_s, n_s, tk_s, av_s, lo_s, md_s), (va_up hds j ds, va_up hcs j cs, va_up hmp j mp, va_up hpk j pk9, va_up hcap j cap9, va_up hcn j cn, va_up hsn j sn, va_up hn j (nI N9), va_up htk j tk, va_up hav j av, va_up hlo j lo, va_up hmd j md, rmI (hla + 1) 8, inI (hct + 1) 8), wc, wd, sg, ln, pl, ch, nu, wb, capw, wl, wn, isv, lf, kk, kr, kd, kr2, kd2, capE', mc', PP'), C, S) ∧ C ≤ ck + c + 20 ∧ S ≤ sk + sl + 100 := by
    unfold F_L_pass
    simp only [FF_X10_pass]
    unfold F_X10_pass
    generalize hX : F_X10_change_ad5 capE PP mc ds cs mp pk cap cn sn (nI N9) tk av lo md hds hcs hmp hpk hcap hcn hsn hn htk hav hlo hmd hla hct (nI t) = X
    unfold F_X10_change_ad5 at hX
    rw [if_pos hag, ek] at hX
    unfold K_X10_change_24_5 at hX
    simp only [] at hX
    rw [e] at hX
    subst hX
    unfold K_L_pass_2 K_X10_change_36_5
    simp only [if_true, adc]
    exact ⟨_, _, rfl, by omega, by omega⟩
  have hs := hsum_up hcap cap9 hj
  obtain ⟨u1, u2, u3⟩ := hcc
  obtain ⟨v1, v2, v3, v4, v5⟩ := co
  have hPl2 : PP'.length = PP.length + Q.length := by rw [q1, List.length_append]
  have g9 := GV.mono g (r' := r + 2) (d' := d) (T' := T + 99) (by split <;> omega) (Nat.le_refl _) (by omega)
  rw [e3]
  refine ⟨⟨OKS.step h hrn g9 ⟨Q, q1⟩ (by omega) (by omega) (by omega) (by omega) (by omega), ⟨Q, q1⟩, t, rfl, rfl, g.2.1.1, rfl, rfl, rfl, hmd9, ht9⟩, ?_, ?_⟩
  · show S + (2 * (cap + cap_t + cap_s + hsum hcap) + 2 * capw + 4 * capE + 10 * PP.length) ≤ 100 + (2 * (cap' + cap_t + cap_s + hsum (va_up hcap j cap9)) + 2 * capw + 4 * capE' + 10 * PP'.length)
    omega
  · show 320 * C + (5 * (cap + cap_t + cap_s + hsum hcap) + 320 * capw + 64 * capE + 640 * PP.length) ≤ 320 * 20 + (5 * (cap' + cap_t + cap_s + hsum (va_up hcap j cap9)) + 320 * capw + 64 * capE' + 640 * PP'.length)
    omega
theorem oq_pass1 {R r d T Bd : Nat} {stk : List SV} {sv : Option SV} {M : MS} (a : Int32) (h : OKS R r d T Bd stk sv M) (hr : r ≤ R) (ha1 : a = nI 1) (hT10 : T + 1 < 10) (hn0 : 0 < (nS M.1).toInt) (hR : R ≤ 32) (hd : d ≤ 100000) (hT : T + 99 < 500000) (hB : Bd ≤ 870000) (hag : (F_X8_against_ad5 a).1 = 0) : OQ 20 100 M (F_L_pass M a) (fun v N => OKS R r d (T + 1) (Bd + 6) (M.1 :: stk.take 7) sv N ∧ (∃ Q, arch N = arch M ++ Q) ∧ 0 ≤ v.toInt ∧ N.1.1 = M.1.1 ∧ nS N.1 = nS M.1) := by
  obtain ⟨⟨ds, cs, mp, pk, cap, cn, sn, n, tk, av, lo, md⟩, ⟨ds_t, cs_t, mp_t, pk_t, cap_t, cn_t, sn_t, n_t, tk_t, av_t, lo_t, md_t⟩, ⟨ds_s, cs_s, mp_s, pk_s, cap_s, cn_s, sn_s, n_s, tk_s, av_s, lo_s, md_s⟩, ⟨hds, hcs, hmp, hpk, hcap, hcn, hsn, hn, htk, hav, hlo, hmd, hla, hct⟩, wc, wd, sg, ln, pl, ch, nu, wb, capw, wl, wn, isv, lf, kk, kr, kd, kr2, kd2, capE, mc, PP⟩ := M
  have h9 := h
  obtain ⟨hG, hPl, hTr, hSa, hSv, hRg, w1, w2, w3, w4, w5⟩ := h9
  obtain ⟨z1, z2, z3, z4, z5, N9, hN, en⟩ := gv_z hG (show r ≤ R by omega) hd (by omega)
  subst en
  replace hag : (F_X8_against_ad5 a).1 = 0 := hag
  subst ha1
  obtain ⟨j, cap9, pk9, ck, sk, hj, ek, hcc, hrn⟩ := RNG.keep hRg (ds := ds) (cs := cs) (mp := mp) (pk := pk) (cap := cap) (cn := cn) (sn := sn) (n := (nI N9)) (tk := tk) (av := av) (lo := lo) (md := md) hG.1 z1 z2 z3 z4 z5 hR
  have hT9 : T < 500000 := by omega
  obtain ⟨capE', mc', mp', cap', pk', cn', sn', tk', av', lo', md', PP', c, sl, e, g, ⟨Q, q1, q2⟩, co⟩ := pass1_gv mc sn av lo md hG (by omega) hR hd hT10 (by omega) (show 0 < (nI N9).toInt from hn0)
  obtain ⟨C, S, e3, hC, hS⟩ : ∃ C S, F_L_pass ((ds, cs, mp, pk, cap, cn, sn, nI N9, tk, av, lo, md), (ds_t, cs_t, mp_t, pk_t, cap_t, cn_t, sn_t, n_t, tk_t, av_t, lo_t, md_t), (ds_s, cs_s, mp_s, pk_s, cap_s, cn_s, sn_s, n_s, tk_s, av_s, lo_s, md_s), (hds, hcs, hmp, hpk, hcap, hcn, hsn, hn, htk, hav, hlo, hmd, hla, hct), wc, wd, sg, ln, pl, ch, nu, wb, capw, wl, wn, isv, lf, kk, kr, kd, kr2, kd2, capE, mc, PP) (nI 1) = (cn', ((ds, cs, mp', pk', cap', cn', sn', (nI N9), tk', av', lo', md'), (ds_t, cs_t, mp_t, pk_t, cap_t, cn_t, sn_t, n_t, tk_t, av_t, lo_t, md_t), (ds_s, cs_s, mp_s, pk_s, cap_s, cn_s, sn_s, n_s, tk_s, av_s, lo_s, md_s), (va_up hds j ds, va_up hcs j cs, va_up hmp j mp, va_up hpk j pk9, va_up hcap j cap9, va_up hcn j cn, va_up hsn j sn, va_up hn j (nI N9), va_up htk j tk, va_up hav j av, va_up hlo j lo, va_up hmd j md, rmI (hla + 1) 8, inI (hct + 1) 8), wc, wd, sg, ln, pl, ch, nu, wb, capw, wl, wn, isv, lf, kk, kr, kd, kr2, kd2, capE', mc', PP'), C, S) ∧ C ≤ ck + c + 20 ∧ S ≤ sk + sl + 100 := by
    unfold F_L_pass
    simp only [FF_X10_pass]
    unfold F_X10_pass
    generalize hX : F_X10_change_ad5 capE PP mc ds cs mp pk cap cn sn (nI N9) tk av lo md hds hcs hmp hpk hcap hcn hsn hn htk hav hlo hmd hla hct (nI 1) = X
    unfold F_X10_change_ad5 at hX
    rw [if_pos hag, ek] at hX
    unfold K_X10_change_24_5 at hX
    simp only [] at hX
    rw [e] at hX
    subst hX
    unfold K_L_pass_2 K_X10_change_36_5
    simp only [if_true, adc]
    exact ⟨_, _, rfl, by omega, by omega⟩
  have hs := hsum_up hcap cap9 hj
  obtain ⟨u1, u2, u3⟩ := hcc
  obtain ⟨v1, v2, v3, v4, v5⟩ := co
  have hPl2 : PP'.length = PP.length + Q.length := by rw [q1, List.length_append]
  rw [e3]
  refine ⟨⟨OKS.step h hrn g ⟨Q, q1⟩ (by omega) (by omega) (by omega) (by omega) (by omega), ⟨Q, q1⟩, g.2.1.1, rfl, rfl⟩, ?_, ?_⟩
  · show S + (2 * (cap + cap_t + cap_s + hsum hcap) + 2 * capw + 4 * capE + 10 * PP.length) ≤ 100 + (2 * (cap' + cap_t + cap_s + hsum (va_up hcap j cap9)) + 2 * capw + 4 * capE' + 10 * PP'.length)
    omega
  · show 320 * C + (5 * (cap + cap_t + cap_s + hsum hcap) + 320 * capw + 64 * capE + 640 * PP.length) ≤ 320 * 20 + (5 * (cap' + cap_t + cap_s + hsum (va_up hcap j cap9)) + 320 * capw + 64 * capE' + 640 * PP'.length)
    omega
