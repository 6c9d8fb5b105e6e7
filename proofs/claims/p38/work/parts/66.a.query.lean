/-! QUERIES OUT OF RANGE -/
theorem ns_n {N9 : Nat} (h6 : N9 ≤ 6) : F_X10_needSurveyor (nI N9) (nI N9) = 2 := by
  unfold F_X10_needSurveyor
  rw [has_nI (by omega) (by omega), if_neg (Nat.lt_irrefl _), if_pos rfl]
theorem ns_m (n : Int32) : F_X10_needSurveyor n (-1) = 2 := by
  unfold F_X10_needSurveyor F_X8_has
  rw [if_pos (show (-1 : Int32) < 0 from by decide), if_pos rfl]
theorem ns_0 {N9 : Nat} (h3 : 3 ≤ N9) (h6 : N9 ≤ 6) : F_X10_needSurveyor (nI N9) 0 = 0 := by
  unfold F_X10_needSurveyor
  rw [show (0 : Int32) = nI 0 from rfl, has_nI (by omega) (by omega), show (if 0 < N9 then (1 : Int32) else 0) = 1 from if_pos (by omega), if_neg (by decide)]
theorem qv_so1 {N : MS} {N9 : Nat} (hn : nS N.1 = nI N9) (h3 : 3 ≤ N9) (h6 : N9 ≤ 6) : F_L_surveyorOf N (nI N9) 9 = (-1001, N, 2, 12) := by
  obtain ⟨⟨ds, cs, mp, pk, cap, cn, sn, n, tk, av, lo, md⟩, ⟨ds_t, cs_t, mp_t, pk_t, cap_t, cn_t, sn_t, n_t, tk_t, av_t, lo_t, md_t⟩, ⟨ds_s, cs_s, mp_s, pk_s, cap_s, cn_s, sn_s, n_s, tk_s, av_s, lo_s, md_s⟩, ⟨hds, hcs, hmp, hpk, hcap, hcn, hsn, hn, htk, hav, hlo, hmd, hla, hct⟩, wc, wd, sg, ln, pl, ch, nu, wb, capw, wl, wn, isv, lf, kk, kr, kd, kr2, kd2, capE, mc, PP⟩ := N
  replace hn : n = nI N9 := hn
  subst hn
  have e : FF_X10_surveyorOf ((ds, cs, mp, pk, cap, cn, sn, nI N9, tk, av, lo, md), (ds_t, cs_t, mp_t, pk_t, cap_t, cn_t, sn_t, n_t, tk_t, av_t, lo_t, md_t), (ds_s, cs_s, mp_s, pk_s, cap_s, cn_s, sn_s, n_s, tk_s, av_s, lo_s, md_s), (hds, hcs, hmp, hpk, hcap, hcn, hsn, hn, htk, hav, hlo, hmd, hla, hct), wc, wd, sg, ln, pl, ch, nu, wb, capw, wl, wn, isv, lf, kk, kr, kd, kr2, kd2, capE, mc, PP) (nI N9) 9 = (2, 0) := by
    show F_X10_surveyorOf PP ds cs mp pk cn (nI N9) (nI N9) 9 = _
    unfold F_X10_surveyorOf
    rw [ns_n h6, if_neg (by decide)]
  unfold F_L_surveyorOf
  rw [e]
  rfl
theorem qv_so2 {N : MS} {N9 : Nat} (hn : nS N.1 = nI N9) (h3 : 3 ≤ N9) (h6 : N9 ≤ 6) : F_L_surveyorOf N 0 6 = (-1002, N, 2, 12) := by
  obtain ⟨⟨ds, cs, mp, pk, cap, cn, sn, n, tk, av, lo, md⟩, ⟨ds_t, cs_t, mp_t, pk_t, cap_t, cn_t, sn_t, n_t, tk_t, av_t, lo_t, md_t⟩, ⟨ds_s, cs_s, mp_s, pk_s, cap_s, cn_s, sn_s, n_s, tk_s, av_s, lo_s, md_s⟩, ⟨hds, hcs, hmp, hpk, hcap, hcn, hsn, hn, htk, hav, hlo, hmd, hla, hct⟩, wc, wd, sg, ln, pl, ch, nu, wb, capw, wl, wn, isv, lf, kk, kr, kd, kr2, kd2, capE, mc, PP⟩ := N
  replace hn : n = nI N9 := hn
  subst hn
  have e : FF_X10_surveyorOf ((ds, cs, mp, pk, cap, cn, sn, nI N9, tk, av, lo, md), (ds_t, cs_t, mp_t, pk_t, cap_t, cn_t, sn_t, n_t, tk_t, av_t, lo_t, md_t), (ds_s, cs_s, mp_s, pk_s, cap_s, cn_s, sn_s, n_s, tk_s, av_s, lo_s, md_s), (hds, hcs, hmp, hpk, hcap, hcn, hsn, hn, htk, hav, hlo, hmd, hla, hct), wc, wd, sg, ln, pl, ch, nu, wb, capw, wl, wn, isv, lf, kk, kr, kd, kr2, kd2, capE, mc, PP) 0 6 = (3, 0) := by
    show F_X10_surveyorOf PP ds cs mp pk cn (nI N9) 0 6 = _
    unfold F_X10_surveyorOf
    rw [ns_0 h3 h6, if_pos rfl, if_neg (by decide), if_neg (by decide), if_neg (by decide), if_neg (by decide), if_neg (by decide), if_neg (by decide)]
  unfold F_L_surveyorOf
  rw [e]
  rfl
theorem qv_so3 {N : MS} {N9 : Nat} (hn : nS N.1 = nI N9) (h3 : 3 ≤ N9) (h6 : N9 ≤ 6) : F_L_surveyorOf N 0 (-1) = (-1002, N, 2, 12) := by
  obtain ⟨⟨ds, cs, mp, pk, cap, cn, sn, n, tk, av, lo, md⟩, ⟨ds_t, cs_t, mp_t, pk_t, cap_t, cn_t, sn_t, n_t, tk_t, av_t, lo_t, md_t⟩, ⟨ds_s, cs_s, mp_s, pk_s, cap_s, cn_s, sn_s, n_s, tk_s, av_s, lo_s, md_s⟩, ⟨hds, hcs, hmp, hpk, hcap, hcn, hsn, hn, htk, hav, hlo, hmd, hla, hct⟩, wc, wd, sg, ln, pl, ch, nu, wb, capw, wl, wn, isv, lf, kk, kr, kd, kr2, kd2, capE, mc, PP⟩ := N
  replace hn : n = nI N9 := hn
  subst hn
  have e : FF_X10_surveyorOf ((ds, cs, mp, pk, cap, cn, sn, nI N9, tk, av, lo, md), (ds_t, cs_t, mp_t, pk_t, cap_t, cn_t, sn_t, n_t, tk_t, av_t, lo_t, md_t), (ds_s, cs_s, mp_s, pk_s, cap_s, cn_s, sn_s, n_s, tk_s, av_s, lo_s, md_s), (hds, hcs, hmp, hpk, hcap, hcn, hsn, hn, htk, hav, hlo, hmd, hla, hct), wc, wd, sg, ln, pl, ch, nu, wb, capw, wl, wn, isv, lf, kk, kr, kd, kr2, kd2, capE, mc, PP) 0 (-1) = (3, 0) := by
    show F_X10_surveyorOf PP ds cs mp pk cn (nI N9) 0 (-1) = _
    unfold F_X10_surveyorOf
    rw [ns_0 h3 h6, if_pos rfl, if_neg (by decide), if_neg (by decide), if_neg (by decide), if_neg (by decide), if_neg (by decide), if_neg (by decide)]
  unfold F_L_surveyorOf
  rw [e]
  rfl
theorem qv_co1 {N : MS} {N9 : Nat} (hn : nS N.1 = nI N9) (h3 : 3 ≤ N9) (h6 : N9 ≤ 6) : F_L_cost N (nI N9) 0 = (-1001, N, 3, 18) := by
  obtain ⟨⟨ds, cs, mp, pk, cap, cn, sn, n, tk, av, lo, md⟩, ⟨ds_t, cs_t, mp_t, pk_t, cap_t, cn_t, sn_t, n_t, tk_t, av_t, lo_t, md_t⟩, ⟨ds_s, cs_s, mp_s, pk_s, cap_s, cn_s, sn_s, n_s, tk_s, av_s, lo_s, md_s⟩, ⟨hds, hcs, hmp, hpk, hcap, hcn, hsn, hn, htk, hav, hlo, hmd, hla, hct⟩, wc, wd, sg, ln, pl, ch, nu, wb, capw, wl, wn, isv, lf, kk, kr, kd, kr2, kd2, capE, mc, PP⟩ := N
  replace hn : n = nI N9 := hn
  subst hn
  have e : FF_X10_cost ((ds, cs, mp, pk, cap, cn, sn, nI N9, tk, av, lo, md), (ds_t, cs_t, mp_t, pk_t, cap_t, cn_t, sn_t, n_t, tk_t, av_t, lo_t, md_t), (ds_s, cs_s, mp_s, pk_s, cap_s, cn_s, sn_s, n_s, tk_s, av_s, lo_s, md_s), (hds, hcs, hmp, hpk, hcap, hcn, hsn, hn, htk, hav, hlo, hmd, hla, hct), wc, wd, sg, ln, pl, ch, nu, wb, capw, wl, wn, isv, lf, kk, kr, kd, kr2, kd2, capE, mc, PP) (nI N9) 0 = (2, 0) := by
    show F_X10_cost cs (nI N9) (nI N9) 0 = _
    unfold F_X10_cost
    rw [ns_n h6, if_neg (by decide)]
  unfold F_L_cost
  rw [e]
  rfl
theorem qv_co2 {N : MS} {N9 : Nat} (hn : nS N.1 = nI N9) (h3 : 3 ≤ N9) (h6 : N9 ≤ 6) : F_L_cost N 0 (-1) = (-1001, N, 3, 18) := by
  obtain ⟨⟨ds, cs, mp, pk, cap, cn, sn, n, tk, av, lo, md⟩, ⟨ds_t, cs_t, mp_t, pk_t, cap_t, cn_t, sn_t, n_t, tk_t, av_t, lo_t, md_t⟩, ⟨ds_s, cs_s, mp_s, pk_s, cap_s, cn_s, sn_s, n_s, tk_s, av_s, lo_s, md_s⟩, ⟨hds, hcs, hmp, hpk, hcap, hcn, hsn, hn, htk, hav, hlo, hmd, hla, hct⟩, wc, wd, sg, ln, pl, ch, nu, wb, capw, wl, wn, isv, lf, kk, kr, kd, kr2, kd2, capE, mc, PP⟩ := N
  replace hn : n = nI N9 := hn
  subst hn
  have e : FF_X10_cost ((ds, cs, mp, pk, cap, cn, sn, nI N9, tk, av, lo, md), (ds_t, cs_t, mp_t, pk_t, cap_t, cn_t, sn_t, n_t, tk_t, av_t, lo_t, md_t), (ds_s, cs_s, mp_s, pk_s, cap_s, cn_s, sn_s, n_s, tk_s, av_s, lo_s, md_s), (hds, hcs, hmp, hpk, hcap, hcn, hsn, hn, htk, hav, hlo, hmd, hla, hct), wc, wd, sg, ln, pl, ch, nu, wb, capw, wl, wn, isv, lf, kk, kr, kd, kr2, kd2, capE, mc, PP) 0 (-1) = (2, 0) := by
    show F_X10_cost cs (nI N9) 0 (-1) = _
    unfold F_X10_cost
    rw [ns_0 h3 h6, if_pos rfl, ns_m, if_neg (by decide)]
  unfold F_L_cost
  rw [e]
  rfl
theorem qv_co3 {N : MS} {N9 : Nat} (hn : nS N.1 = nI N9) (h3 : 3 ≤ N9) (h6 : N9 ≤ 6) (h0 : N.1.2.1 0 = 0) : F_L_cost N 0 0 = (-1002, N, 3, 18) := by
  obtain ⟨⟨ds, cs, mp, pk, cap, cn, sn, n, tk, av, lo, md⟩, ⟨ds_t, cs_t, mp_t, pk_t, cap_t, cn_t, sn_t, n_t, tk_t, av_t, lo_t, md_t⟩, ⟨ds_s, cs_s, mp_s, pk_s, cap_s, cn_s, sn_s, n_s, tk_s, av_s, lo_s, md_s⟩, ⟨hds, hcs, hmp, hpk, hcap, hcn, hsn, hn, htk, hav, hlo, hmd, hla, hct⟩, wc, wd, sg, ln, pl, ch, nu, wb, capw, wl, wn, isv, lf, kk, kr, kd, kr2, kd2, capE, mc, PP⟩ := N
  replace hn : n = nI N9 := hn
  subst hn
  replace h0 : cs (6 * 0 + 0) = 0 := h0
  have e : FF_X10_cost ((ds, cs, mp, pk, cap, cn, sn, nI N9, tk, av, lo, md), (ds_t, cs_t, mp_t, pk_t, cap_t, cn_t, sn_t, n_t, tk_t, av_t, lo_t, md_t), (ds_s, cs_s, mp_s, pk_s, cap_s, cn_s, sn_s, n_s, tk_s, av_s, lo_s, md_s), (hds, hcs, hmp, hpk, hcap, hcn, hsn, hn, htk, hav, hlo, hmd, hla, hct), wc, wd, sg, ln, pl, ch, nu, wb, capw, wl, wn, isv, lf, kk, kr, kd, kr2, kd2, capE, mc, PP) 0 0 = (4, 0) := by
    show F_X10_cost cs (nI N9) 0 0 = _
    unfold F_X10_cost
    rw [ns_0 h3 h6, if_pos rfl, if_pos rfl, show F_X8_costBetween cs 0 0 = cs (6 * 0 + 0) from cost_nI (a := 0) (b := 0) (by omega) (by omega), h0, if_pos rfl]
  unfold F_L_cost
  rw [e]
  rfl
theorem qv_pa1 {N : MS} {N9 : Nat} (hn : nS N.1 = nI N9) (h3 : 3 ≤ N9) (h6 : N9 ≤ 6) : F_L_page N (nI N9) 0 9 = (-1001, N, 3, 18) := by
  obtain ⟨⟨ds, cs, mp, pk, cap, cn, sn, n, tk, av, lo, md⟩, ⟨ds_t, cs_t, mp_t, pk_t, cap_t, cn_t, sn_t, n_t, tk_t, av_t, lo_t, md_t⟩, ⟨ds_s, cs_s, mp_s, pk_s, cap_s, cn_s, sn_s, n_s, tk_s, av_s, lo_s, md_s⟩, ⟨hds, hcs, hmp, hpk, hcap, hcn, hsn, hn, htk, hav, hlo, hmd, hla, hct⟩, wc, wd, sg, ln, pl, ch, nu, wb, capw, wl, wn, isv, lf, kk, kr, kd, kr2, kd2, capE, mc, PP⟩ := N
  replace hn : n = nI N9 := hn
  subst hn
  have e : FF_X10_page ((ds, cs, mp, pk, cap, cn, sn, nI N9, tk, av, lo, md), (ds_t, cs_t, mp_t, pk_t, cap_t, cn_t, sn_t, n_t, tk_t, av_t, lo_t, md_t), (ds_s, cs_s, mp_s, pk_s, cap_s, cn_s, sn_s, n_s, tk_s, av_s, lo_s, md_s), (hds, hcs, hmp, hpk, hcap, hcn, hsn, hn, htk, hav, hlo, hmd, hla, hct), wc, wd, sg, ln, pl, ch, nu, wb, capw, wl, wn, isv, lf, kk, kr, kd, kr2, kd2, capE, mc, PP) (nI N9) 0 9 = (2, 0) := by
    show F_X10_page PP mp (nI N9) tk (nI N9) 0 9 = _
    unfold F_X10_page
    rw [ns_n h6, if_neg (by decide)]
  unfold F_L_page
  rw [e]
  rfl
theorem qv_pa2 {N : MS} {N9 : Nat} (hn : nS N.1 = nI N9) (h3 : 3 ≤ N9) (h6 : N9 ≤ 6) : F_L_page N 0 (nI N9) 9 = (-1001, N, 3, 18) := by
  obtain ⟨⟨ds, cs, mp, pk, cap, cn, sn, n, tk, av, lo, md⟩, ⟨ds_t, cs_t, mp_t, pk_t, cap_t, cn_t, sn_t, n_t, tk_t, av_t, lo_t, md_t⟩, ⟨ds_s, cs_s, mp_s, pk_s, cap_s, cn_s, sn_s, n_s, tk_s, av_s, lo_s, md_s⟩, ⟨hds, hcs, hmp, hpk, hcap, hcn, hsn, hn, htk, hav, hlo, hmd, hla, hct⟩, wc, wd, sg, ln, pl, ch, nu, wb, capw, wl, wn, isv, lf, kk, kr, kd, kr2, kd2, capE, mc, PP⟩ := N
  replace hn : n = nI N9 := hn
  subst hn
  have e : FF_X10_page ((ds, cs, mp, pk, cap, cn, sn, nI N9, tk, av, lo, md), (ds_t, cs_t, mp_t, pk_t, cap_t, cn_t, sn_t, n_t, tk_t, av_t, lo_t, md_t), (ds_s, cs_s, mp_s, pk_s, cap_s, cn_s, sn_s, n_s, tk_s, av_s, lo_s, md_s), (hds, hcs, hmp, hpk, hcap, hcn, hsn, hn, htk, hav, hlo, hmd, hla, hct), wc, wd, sg, ln, pl, ch, nu, wb, capw, wl, wn, isv, lf, kk, kr, kd, kr2, kd2, capE, mc, PP) 0 (nI N9) 9 = (2, 0) := by
    show F_X10_page PP mp (nI N9) tk 0 (nI N9) 9 = _
    unfold F_X10_page
    rw [ns_0 h3 h6, if_pos rfl, ns_n h6, if_neg (by decide)]
  unfold F_L_page
  rw [e]
  rfl
theorem qv_pa3 {N : MS} {N9 : Nat} (hn : nS N.1 = nI N9) (h3 : 3 ≤ N9) (h6 : N9 ≤ 6) : F_L_page N 0 0 3 = (-1002, N, 3, 18) := by
  obtain ⟨⟨ds, cs, mp, pk, cap, cn, sn, n, tk, av, lo, md⟩, ⟨ds_t, cs_t, mp_t, pk_t, cap_t, cn_t, sn_t, n_t, tk_t, av_t, lo_t, md_t⟩, ⟨ds_s, cs_s, mp_s, pk_s, cap_s, cn_s, sn_s, n_s, tk_s, av_s, lo_s, md_s⟩, ⟨hds, hcs, hmp, hpk, hcap, hcn, hsn, hn, htk, hav, hlo, hmd, hla, hct⟩, wc, wd, sg, ln, pl, ch, nu, wb, capw, wl, wn, isv, lf, kk, kr, kd, kr2, kd2, capE, mc, PP⟩ := N
  replace hn : n = nI N9 := hn
  subst hn
  have e : FF_X10_page ((ds, cs, mp, pk, cap, cn, sn, nI N9, tk, av, lo, md), (ds_t, cs_t, mp_t, pk_t, cap_t, cn_t, sn_t, n_t, tk_t, av_t, lo_t, md_t), (ds_s, cs_s, mp_s, pk_s, cap_s, cn_s, sn_s, n_s, tk_s, av_s, lo_s, md_s), (hds, hcs, hmp, hpk, hcap, hcn, hsn, hn, htk, hav, hlo, hmd, hla, hct), wc, wd, sg, ln, pl, ch, nu, wb, capw, wl, wn, isv, lf, kk, kr, kd, kr2, kd2, capE, mc, PP) 0 0 3 = (3, 0) := by
    show F_X10_page PP mp (nI N9) tk 0 0 3 = _
    unfold F_X10_page
    rw [ns_0 h3 h6, if_pos rfl, if_pos rfl, if_neg (by decide), if_neg (by decide)]
  unfold F_L_page
  rw [e]
  rfl
theorem qv_pa4 {N : MS} {N9 : Nat} (hn : nS N.1 = nI N9) (h3 : 3 ≤ N9) (h6 : N9 ≤ 6) : F_L_page N 0 0 (-1) = (-1002, N, 3, 18) := by
  obtain ⟨⟨ds, cs, mp, pk, cap, cn, sn, n, tk, av, lo, md⟩, ⟨ds_t, cs_t, mp_t, pk_t, cap_t, cn_t, sn_t, n_t, tk_t, av_t, lo_t, md_t⟩, ⟨ds_s, cs_s, mp_s, pk_s, cap_s, cn_s, sn_s, n_s, tk_s, av_s, lo_s, md_s⟩, ⟨hds, hcs, hmp, hpk, hcap, hcn, hsn, hn, htk, hav, hlo, hmd, hla, hct⟩, wc, wd, sg, ln, pl, ch, nu, wb, capw, wl, wn, isv, lf, kk, kr, kd, kr2, kd2, capE, mc, PP⟩ := N
  replace hn : n = nI N9 := hn
  subst hn
  have e : FF_X10_page ((ds, cs, mp, pk, cap, cn, sn, nI N9, tk, av, lo, md), (ds_t, cs_t, mp_t, pk_t, cap_t, cn_t, sn_t, n_t, tk_t, av_t, lo_t, md_t), (ds_s, cs_s, mp_s, pk_s, cap_s, cn_s, sn_s, n_s, tk_s, av_s, lo_s, md_s), (hds, hcs, hmp, hpk, hcap, hcn, hsn, hn, htk, hav, hlo, hmd, hla, hct), wc, wd, sg, ln, pl, ch, nu, wb, capw, wl, wn, isv, lf, kk, kr, kd, kr2, kd2, capE, mc, PP) 0 0 (-1) = (3, 0) := by
    show F_X10_page PP mp (nI N9) tk 0 0 (-1) = _
    unfold F_X10_page
    rw [ns_0 h3 h6, if_pos rfl, if_pos rfl, if_pos (by decide)]
  unfold F_L_page
  rw [e]
  rfl
theorem qv_to1 {N : MS} {N9 : Nat} (hn : nS N.1 = nI N9) (h3 : 3 ≤ N9) (h6 : N9 ≤ 6) : F_L_told N (nI N9) 0 0 = (-1001, N, 4, 24) := by
  obtain ⟨⟨ds, cs, mp, pk, cap, cn, sn, n, tk, av, lo, md⟩, ⟨ds_t, cs_t, mp_t, pk_t, cap_t, cn_t, sn_t, n_t, tk_t, av_t, lo_t, md_t⟩, ⟨ds_s, cs_s, mp_s, pk_s, cap_s, cn_s, sn_s, n_s, tk_s, av_s, lo_s, md_s⟩, ⟨hds, hcs, hmp, hpk, hcap, hcn, hsn, hn, htk, hav, hlo, hmd, hla, hct⟩, wc, wd, sg, ln, pl, ch, nu, wb, capw, wl, wn, isv, lf, kk, kr, kd, kr2, kd2, capE, mc, PP⟩ := N
  replace hn : n = nI N9 := hn
  subst hn
  have e : FF_X10_told ((ds, cs, mp, pk, cap, cn, sn, nI N9, tk, av, lo, md), (ds_t, cs_t, mp_t, pk_t, cap_t, cn_t, sn_t, n_t, tk_t, av_t, lo_t, md_t), (ds_s, cs_s, mp_s, pk_s, cap_s, cn_s, sn_s, n_s, tk_s, av_s, lo_s, md_s), (hds, hcs, hmp, hpk, hcap, hcn, hsn, hn, htk, hav, hlo, hmd, hla, hct), wc, wd, sg, ln, pl, ch, nu, wb, capw, wl, wn, isv, lf, kk, kr, kd, kr2, kd2, capE, mc, PP) (nI N9) 0 0 = (2, 0) := by
    show F_X10_told PP mp (nI N9) (nI N9) 0 0 = _
    unfold F_X10_told
    rw [ns_n h6, if_neg (by decide)]
  unfold F_L_told
  rw [e]
  rfl
theorem qv_to2 {N : MS} {N9 : Nat} (hn : nS N.1 = nI N9) (h3 : 3 ≤ N9) (h6 : N9 ≤ 6) : F_L_told N 0 (nI N9) 0 = (-1001, N, 4, 24) := by
  obtain ⟨⟨ds, cs, mp, pk, cap, cn, sn, n, tk, av, lo, md⟩, ⟨ds_t, cs_t, mp_t, pk_t, cap_t, cn_t, sn_t, n_t, tk_t, av_t, lo_t, md_t⟩, ⟨ds_s, cs_s, mp_s, pk_s, cap_s, cn_s, sn_s, n_s, tk_s, av_s, lo_s, md_s⟩, ⟨hds, hcs, hmp, hpk, hcap, hcn, hsn, hn, htk, hav, hlo, hmd, hla, hct⟩, wc, wd, sg, ln, pl, ch, nu, wb, capw, wl, wn, isv, lf, kk, kr, kd, kr2, kd2, capE, mc, PP⟩ := N
  replace hn : n = nI N9 := hn
  subst hn
  have e : FF_X10_told ((ds, cs, mp, pk, cap, cn, sn, nI N9, tk, av, lo, md), (ds_t, cs_t, mp_t, pk_t, cap_t, cn_t, sn_t, n_t, tk_t, av_t, lo_t, md_t), (ds_s, cs_s, mp_s, pk_s, cap_s, cn_s, sn_s, n_s, tk_s, av_s, lo_s, md_s), (hds, hcs, hmp, hpk, hcap, hcn, hsn, hn, htk, hav, hlo, hmd, hla, hct), wc, wd, sg, ln, pl, ch, nu, wb, capw, wl, wn, isv, lf, kk, kr, kd, kr2, kd2, capE, mc, PP) 0 (nI N9) 0 = (2, 0) := by
    show F_X10_told PP mp (nI N9) 0 (nI N9) 0 = _
    unfold F_X10_told
    rw [ns_0 h3 h6, if_pos rfl, ns_n h6, if_neg (by decide)]
  unfold F_L_told
  rw [e]
  rfl
theorem qv_to3 {N : MS} {N9 : Nat} (hn : nS N.1 = nI N9) (h3 : 3 ≤ N9) (h6 : N9 ≤ 6) : F_L_told N 0 0 (nI N9) = (-1001, N, 4, 24) := by
  obtain ⟨⟨ds, cs, mp, pk, cap, cn, sn, n, tk, av, lo, md⟩, ⟨ds_t, cs_t, mp_t, pk_t, cap_t, cn_t, sn_t, n_t, tk_t, av_t, lo_t, md_t⟩, ⟨ds_s, cs_s, mp_s, pk_s, cap_s, cn_s, sn_s, n_s, tk_s, av_s, lo_s, md_s⟩, ⟨hds, hcs, hmp, hpk, hcap, hcn, hsn, hn, htk, hav, hlo, hmd, hla, hct⟩, wc, wd, sg, ln, pl, ch, nu, wb, capw, wl, wn, isv, lf, kk, kr, kd, kr2, kd2, capE, mc, PP⟩ := N
  replace hn : n = nI N9 := hn
  subst hn
  have e : FF_X10_told ((ds, cs, mp, pk, cap, cn, sn, nI N9, tk, av, lo, md), (ds_t, cs_t, mp_t, pk_t, cap_t, cn_t, sn_t, n_t, tk_t, av_t, lo_t, md_t), (ds_s, cs_s, mp_s, pk_s, cap_s, cn_s, sn_s, n_s, tk_s, av_s, lo_s, md_s), (hds, hcs, hmp, hpk, hcap, hcn, hsn, hn, htk, hav, hlo, hmd, hla, hct), wc, wd, sg, ln, pl, ch, nu, wb, capw, wl, wn, isv, lf, kk, kr, kd, kr2, kd2, capE, mc, PP) 0 0 (nI N9) = (2, 0) := by
    show F_X10_told PP mp (nI N9) 0 0 (nI N9) = _
    unfold F_X10_told
    rw [ns_0 h3 h6, if_pos rfl, if_pos rfl, ns_n h6, if_neg (by decide)]
  unfold F_L_told
  rw [e]
  rfl
theorem qv_to4 {N : MS} {N9 : Nat} (hn : nS N.1 = nI N9) (h3 : 3 ≤ N9) (h6 : N9 ≤ 6) (h0 : F_X6_costTo ((pgd (arch N) (F_X8_pageIn (arch N) N.1.2.2.1 0 0)).2.2.2) 0 = 0) : F_L_told N 0 0 0 = (-1002, N, 4, 24) := by
  obtain ⟨⟨ds, cs, mp, pk, cap, cn, sn, n, tk, av, lo, md⟩, ⟨ds_t, cs_t, mp_t, pk_t, cap_t, cn_t, sn_t, n_t, tk_t, av_t, lo_t, md_t⟩, ⟨ds_s, cs_s, mp_s, pk_s, cap_s, cn_s, sn_s, n_s, tk_s, av_s, lo_s, md_s⟩, ⟨hds, hcs, hmp, hpk, hcap, hcn, hsn, hn, htk, hav, hlo, hmd, hla, hct⟩, wc, wd, sg, ln, pl, ch, nu, wb, capw, wl, wn, isv, lf, kk, kr, kd, kr2, kd2, capE, mc, PP⟩ := N
  replace hn : n = nI N9 := hn
  subst hn
  replace h0 : F_X6_costTo ((pgd PP (F_X8_pageIn PP mp 0 0)).2.2.2) 0 = 0 := h0
  have e : FF_X10_told ((ds, cs, mp, pk, cap, cn, sn, nI N9, tk, av, lo, md), (ds_t, cs_t, mp_t, pk_t, cap_t, cn_t, sn_t, n_t, tk_t, av_t, lo_t, md_t), (ds_s, cs_s, mp_s, pk_s, cap_s, cn_s, sn_s, n_s, tk_s, av_s, lo_s, md_s), (hds, hcs, hmp, hpk, hcap, hcn, hsn, hn, htk, hav, hlo, hmd, hla, hct), wc, wd, sg, ln, pl, ch, nu, wb, capw, wl, wn, isv, lf, kk, kr, kd, kr2, kd2, capE, mc, PP) 0 0 0 = (4, 0) := by
    show F_X10_told PP mp (nI N9) 0 0 0 = _
    unfold F_X10_told
    rw [ns_0 h3 h6, if_pos rfl, if_pos rfl, if_pos rfl, if_pos h0]
  unfold F_L_told
  rw [e]
  rfl
theorem qv_le1 {N : MS} {N9 : Nat} (hn : nS N.1 = nI N9) (h3 : 3 ≤ N9) (h6 : N9 ≤ 6) : F_L_letter N (-1) 4 = (-1001, N, 1, 6) := by
  obtain ⟨⟨ds, cs, mp, pk, cap, cn, sn, n, tk, av, lo, md⟩, ⟨ds_t, cs_t, mp_t, pk_t, cap_t, cn_t, sn_t, n_t, tk_t, av_t, lo_t, md_t⟩, ⟨ds_s, cs_s, mp_s, pk_s, cap_s, cn_s, sn_s, n_s, tk_s, av_s, lo_s, md_s⟩, ⟨hds, hcs, hmp, hpk, hcap, hcn, hsn, hn, htk, hav, hlo, hmd, hla, hct⟩, wc, wd, sg, ln, pl, ch, nu, wb, capw, wl, wn, isv, lf, kk, kr, kd, kr2, kd2, capE, mc, PP⟩ := N
  replace hn : n = nI N9 := hn
  subst hn
  have e : FF_X10_letter ((ds, cs, mp, pk, cap, cn, sn, nI N9, tk, av, lo, md), (ds_t, cs_t, mp_t, pk_t, cap_t, cn_t, sn_t, n_t, tk_t, av_t, lo_t, md_t), (ds_s, cs_s, mp_s, pk_s, cap_s, cn_s, sn_s, n_s, tk_s, av_s, lo_s, md_s), (hds, hcs, hmp, hpk, hcap, hcn, hsn, hn, htk, hav, hlo, hmd, hla, hct), wc, wd, sg, ln, pl, ch, nu, wb, capw, wl, wn, isv, lf, kk, kr, kd, kr2, kd2, capE, mc, PP) (-1) 4 = (3, 0) := by
    show F_X10_letter PP pk cn (-1) 4 = _
    unfold F_X10_letter
    rw [if_neg (by decide), if_neg (by decide)]
  unfold F_L_letter
  rw [e]
  rfl
theorem qv_le2 {N : MS} {N9 : Nat} (hn : nS N.1 = nI N9) (h3 : 3 ≤ N9) (h6 : N9 ≤ 6) : F_L_letter N 0 (-1) = (-1001, N, 1, 6) := by
  obtain ⟨⟨ds, cs, mp, pk, cap, cn, sn, n, tk, av, lo, md⟩, ⟨ds_t, cs_t, mp_t, pk_t, cap_t, cn_t, sn_t, n_t, tk_t, av_t, lo_t, md_t⟩, ⟨ds_s, cs_s, mp_s, pk_s, cap_s, cn_s, sn_s, n_s, tk_s, av_s, lo_s, md_s⟩, ⟨hds, hcs, hmp, hpk, hcap, hcn, hsn, hn, htk, hav, hlo, hmd, hla, hct⟩, wc, wd, sg, ln, pl, ch, nu, wb, capw, wl, wn, isv, lf, kk, kr, kd, kr2, kd2, capE, mc, PP⟩ := N
  replace hn : n = nI N9 := hn
  subst hn
  have e : FF_X10_letter ((ds, cs, mp, pk, cap, cn, sn, nI N9, tk, av, lo, md), (ds_t, cs_t, mp_t, pk_t, cap_t, cn_t, sn_t, n_t, tk_t, av_t, lo_t, md_t), (ds_s, cs_s, mp_s, pk_s, cap_s, cn_s, sn_s, n_s, tk_s, av_s, lo_s, md_s), (hds, hcs, hmp, hpk, hcap, hcn, hsn, hn, htk, hav, hlo, hmd, hla, hct), wc, wd, sg, ln, pl, ch, nu, wb, capw, wl, wn, isv, lf, kk, kr, kd, kr2, kd2, capE, mc, PP) 0 (-1) = (3, 0) := by
    show F_X10_letter PP pk cn 0 (-1) = _
    unfold F_X10_letter
    rw [if_pos (by decide)]
  unfold F_L_letter
  rw [e]
  rfl
theorem qv_le3 {N : MS} {N9 : Nat} (hn : nS N.1 = nI N9) (h3 : 3 ≤ N9) (h6 : N9 ≤ 6) : F_L_letter N (-1) 0 = (-1002, N, 1, 6) := by
  obtain ⟨⟨ds, cs, mp, pk, cap, cn, sn, n, tk, av, lo, md⟩, ⟨ds_t, cs_t, mp_t, pk_t, cap_t, cn_t, sn_t, n_t, tk_t, av_t, lo_t, md_t⟩, ⟨ds_s, cs_s, mp_s, pk_s, cap_s, cn_s, sn_s, n_s, tk_s, av_s, lo_s, md_s⟩, ⟨hds, hcs, hmp, hpk, hcap, hcn, hsn, hn, htk, hav, hlo, hmd, hla, hct⟩, wc, wd, sg, ln, pl, ch, nu, wb, capw, wl, wn, isv, lf, kk, kr, kd, kr2, kd2, capE, mc, PP⟩ := N
  replace hn : n = nI N9 := hn
  subst hn
  have e : FF_X10_letter ((ds, cs, mp, pk, cap, cn, sn, nI N9, tk, av, lo, md), (ds_t, cs_t, mp_t, pk_t, cap_t, cn_t, sn_t, n_t, tk_t, av_t, lo_t, md_t), (ds_s, cs_s, mp_s, pk_s, cap_s, cn_s, sn_s, n_s, tk_s, av_s, lo_s, md_s), (hds, hcs, hmp, hpk, hcap, hcn, hsn, hn, htk, hav, hlo, hmd, hla, hct), wc, wd, sg, ln, pl, ch, nu, wb, capw, wl, wn, isv, lf, kk, kr, kd, kr2, kd2, capE, mc, PP) (-1) 0 = (4, 0) := by
    show F_X10_letter PP pk cn (-1) 0 = _
    unfold F_X10_letter
    rw [if_neg (by decide), if_pos (by decide), show F_X5_has cn (-1) = 0 from by unfold F_X5_has; rw [if_pos (show (-1 : Int32) < 0 from by decide)], if_pos rfl]
  unfold F_L_letter
  rw [e]
  rfl
theorem has_cn (cn : Int32) : F_X5_has cn cn = 0 := by
  unfold F_X5_has
  by_cases c : cn < 0
  · rw [if_pos c]
  · rw [if_neg c, if_pos (by rw [Int32.le_iff_toInt_le]; omega)]
theorem qv_le4 (N : MS) : F_L_letter N (cnS N.1) 0 = (-1002, N, 1, 6) := by
  obtain ⟨⟨ds, cs, mp, pk, cap, cn, sn, n, tk, av, lo, md⟩, ⟨ds_t, cs_t, mp_t, pk_t, cap_t, cn_t, sn_t, n_t, tk_t, av_t, lo_t, md_t⟩, ⟨ds_s, cs_s, mp_s, pk_s, cap_s, cn_s, sn_s, n_s, tk_s, av_s, lo_s, md_s⟩, ⟨hds, hcs, hmp, hpk, hcap, hcn, hsn, hn, htk, hav, hlo, hmd, hla, hct⟩, wc, wd, sg, ln, pl, ch, nu, wb, capw, wl, wn, isv, lf, kk, kr, kd, kr2, kd2, capE, mc, PP⟩ := N
  have e : FF_X10_letter ((ds, cs, mp, pk, cap, cn, sn, n, tk, av, lo, md), (ds_t, cs_t, mp_t, pk_t, cap_t, cn_t, sn_t, n_t, tk_t, av_t, lo_t, md_t), (ds_s, cs_s, mp_s, pk_s, cap_s, cn_s, sn_s, n_s, tk_s, av_s, lo_s, md_s), (hds, hcs, hmp, hpk, hcap, hcn, hsn, hn, htk, hav, hlo, hmd, hla, hct), wc, wd, sg, ln, pl, ch, nu, wb, capw, wl, wn, isv, lf, kk, kr, kd, kr2, kd2, capE, mc, PP) cn 0 = (4, 0) := by
    show F_X10_letter PP pk cn cn 0 = _
    unfold F_X10_letter
    rw [if_neg (by decide), if_pos (by decide), has_cn, if_pos rfl]
  show F_L_letter ((ds, cs, mp, pk, cap, cn, sn, n, tk, av, lo, md), (ds_t, cs_t, mp_t, pk_t, cap_t, cn_t, sn_t, n_t, tk_t, av_t, lo_t, md_t), (ds_s, cs_s, mp_s, pk_s, cap_s, cn_s, sn_s, n_s, tk_s, av_s, lo_s, md_s), (hds, hcs, hmp, hpk, hcap, hcn, hsn, hn, htk, hav, hlo, hmd, hla, hct), wc, wd, sg, ln, pl, ch, nu, wb, capw, wl, wn, isv, lf, kk, kr, kd, kr2, kd2, capE, mc, PP) cn 0 = _
  unfold F_L_letter
  rw [e]
  rfl
theorem qv_di {N : MS} {N9 : Nat} (hn : nS N.1 = nI N9) (h3 : 3 ≤ N9) (h6 : N9 ≤ 6) : F_L_distance N (nI N9) 0 = (-1001, N, 3, 18) := by
  obtain ⟨⟨ds, cs, mp, pk, cap, cn, sn, n, tk, av, lo, md⟩, ⟨ds_t, cs_t, mp_t, pk_t, cap_t, cn_t, sn_t, n_t, tk_t, av_t, lo_t, md_t⟩, ⟨ds_s, cs_s, mp_s, pk_s, cap_s, cn_s, sn_s, n_s, tk_s, av_s, lo_s, md_s⟩, ⟨hds, hcs, hmp, hpk, hcap, hcn, hsn, hn, htk, hav, hlo, hmd, hla, hct⟩, wc, wd, sg, ln, pl, ch, nu, wb, capw, wl, wn, isv, lf, kk, kr, kd, kr2, kd2, capE, mc, PP⟩ := N
  replace hn : n = nI N9 := hn
  subst hn
  have e : FF_X10_distance ((ds, cs, mp, pk, cap, cn, sn, nI N9, tk, av, lo, md), (ds_t, cs_t, mp_t, pk_t, cap_t, cn_t, sn_t, n_t, tk_t, av_t, lo_t, md_t), (ds_s, cs_s, mp_s, pk_s, cap_s, cn_s, sn_s, n_s, tk_s, av_s, lo_s, md_s), (hds, hcs, hmp, hpk, hcap, hcn, hsn, hn, htk, hav, hlo, hmd, hla, hct), wc, wd, sg, ln, pl, ch, nu, wb, capw, wl, wn, isv, lf, kk, kr, kd, kr2, kd2, capE, mc, PP) (nI N9) 0 = (2, 0, wc, wd) := by
    show F_X10_distance PP mp (nI N9) wc wd (nI N9) 0 = _
    unfold F_X10_distance
    rw [ns_n h6, if_neg (by decide)]
  unfold F_L_distance
  rw [e]
  rfl
theorem qv_da {N : MS} {N9 : Nat} (hn : nS N.1 = nI N9) (h3 : 3 ≤ N9) (h6 : N9 ≤ 6) : F_L_distanceAgain N 0 (nI N9) = (-1001, N, 3, 18) := by
  obtain ⟨⟨ds, cs, mp, pk, cap, cn, sn, n, tk, av, lo, md⟩, ⟨ds_t, cs_t, mp_t, pk_t, cap_t, cn_t, sn_t, n_t, tk_t, av_t, lo_t, md_t⟩, ⟨ds_s, cs_s, mp_s, pk_s, cap_s, cn_s, sn_s, n_s, tk_s, av_s, lo_s, md_s⟩, ⟨hds, hcs, hmp, hpk, hcap, hcn, hsn, hn, htk, hav, hlo, hmd, hla, hct⟩, wc, wd, sg, ln, pl, ch, nu, wb, capw, wl, wn, isv, lf, kk, kr, kd, kr2, kd2, capE, mc, PP⟩ := N
  replace hn : n = nI N9 := hn
  subst hn
  have e : FF_X10_distanceAgain ((ds, cs, mp, pk, cap, cn, sn, nI N9, tk, av, lo, md), (ds_t, cs_t, mp_t, pk_t, cap_t, cn_t, sn_t, n_t, tk_t, av_t, lo_t, md_t), (ds_s, cs_s, mp_s, pk_s, cap_s, cn_s, sn_s, n_s, tk_s, av_s, lo_s, md_s), (hds, hcs, hmp, hpk, hcap, hcn, hsn, hn, htk, hav, hlo, hmd, hla, hct), wc, wd, sg, ln, pl, ch, nu, wb, capw, wl, wn, isv, lf, kk, kr, kd, kr2, kd2, capE, mc, PP) 0 (nI N9) = (2, 0, wc, wd) := by
    show F_X10_distanceAgain PP mp (nI N9) wc wd 0 (nI N9) = _
    unfold F_X10_distanceAgain
    rw [ns_0 h3 h6, if_pos rfl, ns_n h6, if_neg (by decide)]
  unfold F_L_distanceAgain
  rw [e]
  rfl
theorem qv_ne1 {N : MS} {N9 : Nat} (hn : nS N.1 = nI N9) (h3 : 3 ≤ N9) (h6 : N9 ≤ 6) : F_L_next N (-1) 0 = (-1001, N, 3, 18) := by
  obtain ⟨⟨ds, cs, mp, pk, cap, cn, sn, n, tk, av, lo, md⟩, ⟨ds_t, cs_t, mp_t, pk_t, cap_t, cn_t, sn_t, n_t, tk_t, av_t, lo_t, md_t⟩, ⟨ds_s, cs_s, mp_s, pk_s, cap_s, cn_s, sn_s, n_s, tk_s, av_s, lo_s, md_s⟩, ⟨hds, hcs, hmp, hpk, hcap, hcn, hsn, hn, htk, hav, hlo, hmd, hla, hct⟩, wc, wd, sg, ln, pl, ch, nu, wb, capw, wl, wn, isv, lf, kk, kr, kd, kr2, kd2, capE, mc, PP⟩ := N
  replace hn : n = nI N9 := hn
  subst hn
  have e : FF_X10_next ((ds, cs, mp, pk, cap, cn, sn, nI N9, tk, av, lo, md), (ds_t, cs_t, mp_t, pk_t, cap_t, cn_t, sn_t, n_t, tk_t, av_t, lo_t, md_t), (ds_s, cs_s, mp_s, pk_s, cap_s, cn_s, sn_s, n_s, tk_s, av_s, lo_s, md_s), (hds, hcs, hmp, hpk, hcap, hcn, hsn, hn, htk, hav, hlo, hmd, hla, hct), wc, wd, sg, ln, pl, ch, nu, wb, capw, wl, wn, isv, lf, kk, kr, kd, kr2, kd2, capE, mc, PP) (-1) 0 = (2, 0, wc, wd) := by
    show F_X10_next PP mp (nI N9) wc wd (-1) 0 = _
    unfold F_X10_next
    rw [ns_m, if_neg (by decide)]
  unfold F_L_next
  rw [e]
  rfl
theorem qv_re {N : MS} {N9 : Nat} (hn : nS N.1 = nI N9) (h3 : 3 ≤ N9) (h6 : N9 ≤ 6) : F_L_reached N (nI N9) = (-1001, N, 1, 6) := by
  obtain ⟨⟨ds, cs, mp, pk, cap, cn, sn, n, tk, av, lo, md⟩, ⟨ds_t, cs_t, mp_t, pk_t, cap_t, cn_t, sn_t, n_t, tk_t, av_t, lo_t, md_t⟩, ⟨ds_s, cs_s, mp_s, pk_s, cap_s, cn_s, sn_s, n_s, tk_s, av_s, lo_s, md_s⟩, ⟨hds, hcs, hmp, hpk, hcap, hcn, hsn, hn, htk, hav, hlo, hmd, hla, hct⟩, wc, wd, sg, ln, pl, ch, nu, wb, capw, wl, wn, isv, lf, kk, kr, kd, kr2, kd2, capE, mc, PP⟩ := N
  replace hn : n = nI N9 := hn
  subst hn
  have e : FF_X10_reached ((ds, cs, mp, pk, cap, cn, sn, nI N9, tk, av, lo, md), (ds_t, cs_t, mp_t, pk_t, cap_t, cn_t, sn_t, n_t, tk_t, av_t, lo_t, md_t), (ds_s, cs_s, mp_s, pk_s, cap_s, cn_s, sn_s, n_s, tk_s, av_s, lo_s, md_s), (hds, hcs, hmp, hpk, hcap, hcn, hsn, hn, htk, hav, hlo, hmd, hla, hct), wc, wd, sg, ln, pl, ch, nu, wb, capw, wl, wn, isv, lf, kk, kr, kd, kr2, kd2, capE, mc, PP) (nI N9) = (2, 0, wc, wd) := by
    show F_X10_reached PP mp (nI N9) wc wd (nI N9) = _
    unfold F_X10_reached
    rw [ns_n h6, if_neg (by decide)]
  unfold F_L_reached
  rw [e]
  rfl
theorem qv_fo {N : MS} {N9 : Nat} (hn : nS N.1 = nI N9) (h3 : 3 ≤ N9) (h6 : N9 ≤ 6) : F_L_follow N 0 (nI N9) = (-1001, N, 3, 18) := by
  obtain ⟨⟨ds, cs, mp, pk, cap, cn, sn, n, tk, av, lo, md⟩, ⟨ds_t, cs_t, mp_t, pk_t, cap_t, cn_t, sn_t, n_t, tk_t, av_t, lo_t, md_t⟩, ⟨ds_s, cs_s, mp_s, pk_s, cap_s, cn_s, sn_s, n_s, tk_s, av_s, lo_s, md_s⟩, ⟨hds, hcs, hmp, hpk, hcap, hcn, hsn, hn, htk, hav, hlo, hmd, hla, hct⟩, wc, wd, sg, ln, pl, ch, nu, wb, capw, wl, wn, isv, lf, kk, kr, kd, kr2, kd2, capE, mc, PP⟩ := N
  replace hn : n = nI N9 := hn
  subst hn
  have e : FF_X10_follow ((ds, cs, mp, pk, cap, cn, sn, nI N9, tk, av, lo, md), (ds_t, cs_t, mp_t, pk_t, cap_t, cn_t, sn_t, n_t, tk_t, av_t, lo_t, md_t), (ds_s, cs_s, mp_s, pk_s, cap_s, cn_s, sn_s, n_s, tk_s, av_s, lo_s, md_s), (hds, hcs, hmp, hpk, hcap, hcn, hsn, hn, htk, hav, hlo, hmd, hla, hct), wc, wd, sg, ln, pl, ch, nu, wb, capw, wl, wn, isv, lf, kk, kr, kd, kr2, kd2, capE, mc, PP) 0 (nI N9) = (2, 0, wc, wd) := by
    show F_X10_follow PP cs mp (nI N9) wc wd 0 (nI N9) = _
    unfold F_X10_follow
    rw [ns_0 h3 h6, if_pos rfl, ns_n h6, if_neg (by decide)]
  unfold F_L_follow
  rw [e]
  rfl
theorem qv_rl {N : MS} {N9 : Nat} (hn : nS N.1 = nI N9) (h3 : 3 ≤ N9) (h6 : N9 ≤ 6) : F_L_real N (nI N9) 0 = (-1001, N, 3, 18) := by
  obtain ⟨⟨ds, cs, mp, pk, cap, cn, sn, n, tk, av, lo, md⟩, ⟨ds_t, cs_t, mp_t, pk_t, cap_t, cn_t, sn_t, n_t, tk_t, av_t, lo_t, md_t⟩, ⟨ds_s, cs_s, mp_s, pk_s, cap_s, cn_s, sn_s, n_s, tk_s, av_s, lo_s, md_s⟩, ⟨hds, hcs, hmp, hpk, hcap, hcn, hsn, hn, htk, hav, hlo, hmd, hla, hct⟩, wc, wd, sg, ln, pl, ch, nu, wb, capw, wl, wn, isv, lf, kk, kr, kd, kr2, kd2, capE, mc, PP⟩ := N
  replace hn : n = nI N9 := hn
  subst hn
  have e : FF_X10_real ((ds, cs, mp, pk, cap, cn, sn, nI N9, tk, av, lo, md), (ds_t, cs_t, mp_t, pk_t, cap_t, cn_t, sn_t, n_t, tk_t, av_t, lo_t, md_t), (ds_s, cs_s, mp_s, pk_s, cap_s, cn_s, sn_s, n_s, tk_s, av_s, lo_s, md_s), (hds, hcs, hmp, hpk, hcap, hcn, hsn, hn, htk, hav, hlo, hmd, hla, hct), wc, wd, sg, ln, pl, ch, nu, wb, capw, wl, wn, isv, lf, kk, kr, kd, kr2, kd2, capE, mc, PP) (nI N9) 0 = (2, 0, wc, wd) := by
    show F_X10_real ds cs (nI N9) wc wd (nI N9) 0 = _
    unfold F_X10_real
    rw [ns_n h6, if_neg (by decide)]
  unfold F_L_real
  rw [e]
  rfl
theorem qv_ri {N : MS} {N9 : Nat} (hn : nS N.1 = nI N9) (h3 : 3 ≤ N9) (h6 : N9 ≤ 6) : F_L_right N (-1) = (-1001, N, 2, 12) := by
  obtain ⟨⟨ds, cs, mp, pk, cap, cn, sn, n, tk, av, lo, md⟩, ⟨ds_t, cs_t, mp_t, pk_t, cap_t, cn_t, sn_t, n_t, tk_t, av_t, lo_t, md_t⟩, ⟨ds_s, cs_s, mp_s, pk_s, cap_s, cn_s, sn_s, n_s, tk_s, av_s, lo_s, md_s⟩, ⟨hds, hcs, hmp, hpk, hcap, hcn, hsn, hn, htk, hav, hlo, hmd, hla, hct⟩, wc, wd, sg, ln, pl, ch, nu, wb, capw, wl, wn, isv, lf, kk, kr, kd, kr2, kd2, capE, mc, PP⟩ := N
  replace hn : n = nI N9 := hn
  subst hn
  have e : FF_X10_isRight ((ds, cs, mp, pk, cap, cn, sn, nI N9, tk, av, lo, md), (ds_t, cs_t, mp_t, pk_t, cap_t, cn_t, sn_t, n_t, tk_t, av_t, lo_t, md_t), (ds_s, cs_s, mp_s, pk_s, cap_s, cn_s, sn_s, n_s, tk_s, av_s, lo_s, md_s), (hds, hcs, hmp, hpk, hcap, hcn, hsn, hn, htk, hav, hlo, hmd, hla, hct), wc, wd, sg, ln, pl, ch, nu, wb, capw, wl, wn, isv, lf, kk, kr, kd, kr2, kd2, capE, mc, PP) (-1) = (2, 0, wc, wd) := by
    show F_X10_isRight PP ds cs mp (nI N9) wc wd (-1) = _
    unfold F_X10_isRight
    rw [ns_m, if_neg (by decide)]
  unfold F_L_right
  rw [e]
  rfl
theorem qv_ag {N : MS} {N9 : Nat} (hn : nS N.1 = nI N9) (h3 : 3 ≤ N9) (h6 : N9 ≤ 6) : F_L_agree N 3 = (-1001, N, 1, 6) := by
  obtain ⟨⟨ds, cs, mp, pk, cap, cn, sn, n, tk, av, lo, md⟩, ⟨ds_t, cs_t, mp_t, pk_t, cap_t, cn_t, sn_t, n_t, tk_t, av_t, lo_t, md_t⟩, ⟨ds_s, cs_s, mp_s, pk_s, cap_s, cn_s, sn_s, n_s, tk_s, av_s, lo_s, md_s⟩, ⟨hds, hcs, hmp, hpk, hcap, hcn, hsn, hn, htk, hav, hlo, hmd, hla, hct⟩, wc, wd, sg, ln, pl, ch, nu, wb, capw, wl, wn, isv, lf, kk, kr, kd, kr2, kd2, capE, mc, PP⟩ := N
  replace hn : n = nI N9 := hn
  subst hn
  have e : FF_X10_agree ((ds, cs, mp, pk, cap, cn, sn, nI N9, tk, av, lo, md), (ds_t, cs_t, mp_t, pk_t, cap_t, cn_t, sn_t, n_t, tk_t, av_t, lo_t, md_t), (ds_s, cs_s, mp_s, pk_s, cap_s, cn_s, sn_s, n_s, tk_s, av_s, lo_s, md_s), (hds, hcs, hmp, hpk, hcap, hcn, hsn, hn, htk, hav, hlo, hmd, hla, hct), wc, wd, sg, ln, pl, ch, nu, wb, capw, wl, wn, isv, lf, kk, kr, kd, kr2, kd2, capE, mc, PP) 3 = (3, 0) := by
    show F_X10_agree PP ds mp (nI N9) 3 = _
    unfold F_X10_agree
    rw [show F_X10_needDistrict 3 = 3 from by decide, if_neg (by decide)]
  unfold F_L_agree
  rw [e]
  rfl
theorem qv_aa {N : MS} {N9 : Nat} (hn : nS N.1 = nI N9) (h3 : 3 ≤ N9) (h6 : N9 ≤ 6) : F_L_agreeAgain N (-1) = (-1001, N, 1, 6) := by
  obtain ⟨⟨ds, cs, mp, pk, cap, cn, sn, n, tk, av, lo, md⟩, ⟨ds_t, cs_t, mp_t, pk_t, cap_t, cn_t, sn_t, n_t, tk_t, av_t, lo_t, md_t⟩, ⟨ds_s, cs_s, mp_s, pk_s, cap_s, cn_s, sn_s, n_s, tk_s, av_s, lo_s, md_s⟩, ⟨hds, hcs, hmp, hpk, hcap, hcn, hsn, hn, htk, hav, hlo, hmd, hla, hct⟩, wc, wd, sg, ln, pl, ch, nu, wb, capw, wl, wn, isv, lf, kk, kr, kd, kr2, kd2, capE, mc, PP⟩ := N
  replace hn : n = nI N9 := hn
  subst hn
  have e : FF_X10_agreeAgain ((ds, cs, mp, pk, cap, cn, sn, nI N9, tk, av, lo, md), (ds_t, cs_t, mp_t, pk_t, cap_t, cn_t, sn_t, n_t, tk_t, av_t, lo_t, md_t), (ds_s, cs_s, mp_s, pk_s, cap_s, cn_s, sn_s, n_s, tk_s, av_s, lo_s, md_s), (hds, hcs, hmp, hpk, hcap, hcn, hsn, hn, htk, hav, hlo, hmd, hla, hct), wc, wd, sg, ln, pl, ch, nu, wb, capw, wl, wn, isv, lf, kk, kr, kd, kr2, kd2, capE, mc, PP) (-1) = (3, 0) := by
    show F_X10_agreeAgain PP ds mp (nI N9) (-1) = _
    unfold F_X10_agreeAgain
    rw [show F_X10_needDistrict (-1) = 3 from by decide, if_neg (by decide)]
  unfold F_L_agreeAgain
  rw [e]
  rfl
theorem qv_me {N : MS} {N9 : Nat} (hn : nS N.1 = nI N9) (h3 : 3 ≤ N9) (h6 : N9 ≤ 6) : F_L_members N 3 = (-1001, N, 1, 6) := by
  obtain ⟨⟨ds, cs, mp, pk, cap, cn, sn, n, tk, av, lo, md⟩, ⟨ds_t, cs_t, mp_t, pk_t, cap_t, cn_t, sn_t, n_t, tk_t, av_t, lo_t, md_t⟩, ⟨ds_s, cs_s, mp_s, pk_s, cap_s, cn_s, sn_s, n_s, tk_s, av_s, lo_s, md_s⟩, ⟨hds, hcs, hmp, hpk, hcap, hcn, hsn, hn, htk, hav, hlo, hmd, hla, hct⟩, wc, wd, sg, ln, pl, ch, nu, wb, capw, wl, wn, isv, lf, kk, kr, kd, kr2, kd2, capE, mc, PP⟩ := N
  replace hn : n = nI N9 := hn
  subst hn
  have e : FF_X10_members ((ds, cs, mp, pk, cap, cn, sn, nI N9, tk, av, lo, md), (ds_t, cs_t, mp_t, pk_t, cap_t, cn_t, sn_t, n_t, tk_t, av_t, lo_t, md_t), (ds_s, cs_s, mp_s, pk_s, cap_s, cn_s, sn_s, n_s, tk_s, av_s, lo_s, md_s), (hds, hcs, hmp, hpk, hcap, hcn, hsn, hn, htk, hav, hlo, hmd, hla, hct), wc, wd, sg, ln, pl, ch, nu, wb, capw, wl, wn, isv, lf, kk, kr, kd, kr2, kd2, capE, mc, PP) 3 = (3, 0) := by
    show F_X10_members ds (nI N9) 3 = _
    unfold F_X10_members
    rw [show F_X10_needDistrict 3 = 3 from by decide, if_neg (by decide)]
  unfold F_L_members
  rw [e]
  rfl
theorem qv_li {N : MS} {N9 : Nat} (hn : nS N.1 = nI N9) (h3 : 3 ≤ N9) (h6 : N9 ≤ 6) : F_L_line N (nI N9) = (-1001, N, 1, 6) := by
  obtain ⟨⟨ds, cs, mp, pk, cap, cn, sn, n, tk, av, lo, md⟩, ⟨ds_t, cs_t, mp_t, pk_t, cap_t, cn_t, sn_t, n_t, tk_t, av_t, lo_t, md_t⟩, ⟨ds_s, cs_s, mp_s, pk_s, cap_s, cn_s, sn_s, n_s, tk_s, av_s, lo_s, md_s⟩, ⟨hds, hcs, hmp, hpk, hcap, hcn, hsn, hn, htk, hav, hlo, hmd, hla, hct⟩, wc, wd, sg, ln, pl, ch, nu, wb, capw, wl, wn, isv, lf, kk, kr, kd, kr2, kd2, capE, mc, PP⟩ := N
  replace hn : n = nI N9 := hn
  subst hn
  have e : FF_X10_line ((ds, cs, mp, pk, cap, cn, sn, nI N9, tk, av, lo, md), (ds_t, cs_t, mp_t, pk_t, cap_t, cn_t, sn_t, n_t, tk_t, av_t, lo_t, md_t), (ds_s, cs_s, mp_s, pk_s, cap_s, cn_s, sn_s, n_s, tk_s, av_s, lo_s, md_s), (hds, hcs, hmp, hpk, hcap, hcn, hsn, hn, htk, hav, hlo, hmd, hla, hct), wc, wd, sg, ln, pl, ch, nu, wb, capw, wl, wn, isv, lf, kk, kr, kd, kr2, kd2, capE, mc, PP) (nI N9) = (2, 0, capw, wb, wl, wn, (0 + 1), (0 + 6)) := by
    show F_X10_line PP mp (nI N9) wb capw wl wn (nI N9) = _
    unfold F_X10_line
    rw [ns_n h6, if_neg (by decide)]
  unfold F_L_line
  rw [e]
  rfl
theorem qv_ch1 {N : MS} {N9 : Nat} (hn : nS N.1 = nI N9) (h3 : 3 ≤ N9) (h6 : N9 ≤ 6) : F_L_character N (-1) = (-1001, N, 1, 6) := by
  obtain ⟨⟨ds, cs, mp, pk, cap, cn, sn, n, tk, av, lo, md⟩, ⟨ds_t, cs_t, mp_t, pk_t, cap_t, cn_t, sn_t, n_t, tk_t, av_t, lo_t, md_t⟩, ⟨ds_s, cs_s, mp_s, pk_s, cap_s, cn_s, sn_s, n_s, tk_s, av_s, lo_s, md_s⟩, ⟨hds, hcs, hmp, hpk, hcap, hcn, hsn, hn, htk, hav, hlo, hmd, hla, hct⟩, wc, wd, sg, ln, pl, ch, nu, wb, capw, wl, wn, isv, lf, kk, kr, kd, kr2, kd2, capE, mc, PP⟩ := N
  replace hn : n = nI N9 := hn
  subst hn
  have e : FF_X10_character ((ds, cs, mp, pk, cap, cn, sn, nI N9, tk, av, lo, md), (ds_t, cs_t, mp_t, pk_t, cap_t, cn_t, sn_t, n_t, tk_t, av_t, lo_t, md_t), (ds_s, cs_s, mp_s, pk_s, cap_s, cn_s, sn_s, n_s, tk_s, av_s, lo_s, md_s), (hds, hcs, hmp, hpk, hcap, hcn, hsn, hn, htk, hav, hlo, hmd, hla, hct), wc, wd, sg, ln, pl, ch, nu, wb, capw, wl, wn, isv, lf, kk, kr, kd, kr2, kd2, capE, mc, PP) (-1) = (2, 0) := by
    show F_X10_character wb wn (-1) = _
    unfold F_X10_character
    rw [if_pos (by decide)]
  unfold F_L_character
  rw [e]
  rfl
theorem qv_ch2 {N : MS} {N9 : Nat} (hn : nS N.1 = nI N9) (h3 : 3 ≤ N9) (h6 : N9 ≤ 6) (h0 : (bufs N).1.toInt ≤ 198) : F_L_character N 240 = (-1001, N, 1, 6) := by
  obtain ⟨⟨ds, cs, mp, pk, cap, cn, sn, n, tk, av, lo, md⟩, ⟨ds_t, cs_t, mp_t, pk_t, cap_t, cn_t, sn_t, n_t, tk_t, av_t, lo_t, md_t⟩, ⟨ds_s, cs_s, mp_s, pk_s, cap_s, cn_s, sn_s, n_s, tk_s, av_s, lo_s, md_s⟩, ⟨hds, hcs, hmp, hpk, hcap, hcn, hsn, hn, htk, hav, hlo, hmd, hla, hct⟩, wc, wd, sg, ln, pl, ch, nu, wb, capw, wl, wn, isv, lf, kk, kr, kd, kr2, kd2, capE, mc, PP⟩ := N
  replace hn : n = nI N9 := hn
  subst hn
  replace h0 : wn.toInt ≤ 198 := h0
  have e : FF_X10_character ((ds, cs, mp, pk, cap, cn, sn, nI N9, tk, av, lo, md), (ds_t, cs_t, mp_t, pk_t, cap_t, cn_t, sn_t, n_t, tk_t, av_t, lo_t, md_t), (ds_s, cs_s, mp_s, pk_s, cap_s, cn_s, sn_s, n_s, tk_s, av_s, lo_s, md_s), (hds, hcs, hmp, hpk, hcap, hcn, hsn, hn, htk, hav, hlo, hmd, hla, hct), wc, wd, sg, ln, pl, ch, nu, wb, capw, wl, wn, isv, lf, kk, kr, kd, kr2, kd2, capE, mc, PP) 240 = (2, 0) := by
    show F_X10_character wb wn 240 = _
    unfold F_X10_character
    rw [if_neg (by decide), show F_J4_length_8abf5 wn = wn from rfl, if_neg (by rw [Int32.lt_iff_toInt_lt, show (240 : Int32).toInt = 240 from by decide]; omega)]
  unfold F_L_character
  rw [e]
  rfl
theorem qv_ac1 {N : MS} {N9 : Nat} (hn : nS N.1 = nI N9) (h3 : 3 ≤ N9) (h6 : N9 ≤ 6) : F_L_account N 11 = (-1001, N, 1, 6) := by
  obtain ⟨⟨ds, cs, mp, pk, cap, cn, sn, n, tk, av, lo, md⟩, ⟨ds_t, cs_t, mp_t, pk_t, cap_t, cn_t, sn_t, n_t, tk_t, av_t, lo_t, md_t⟩, ⟨ds_s, cs_s, mp_s, pk_s, cap_s, cn_s, sn_s, n_s, tk_s, av_s, lo_s, md_s⟩, ⟨hds, hcs, hmp, hpk, hcap, hcn, hsn, hn, htk, hav, hlo, hmd, hla, hct⟩, wc, wd, sg, ln, pl, ch, nu, wb, capw, wl, wn, isv, lf, kk, kr, kd, kr2, kd2, capE, mc, PP⟩ := N
  replace hn : n = nI N9 := hn
  subst hn
  have e : FF_X10_account ((ds, cs, mp, pk, cap, cn, sn, nI N9, tk, av, lo, md), (ds_t, cs_t, mp_t, pk_t, cap_t, cn_t, sn_t, n_t, tk_t, av_t, lo_t, md_t), (ds_s, cs_s, mp_s, pk_s, cap_s, cn_s, sn_s, n_s, tk_s, av_s, lo_s, md_s), (hds, hcs, hmp, hpk, hcap, hcn, hsn, hn, htk, hav, hlo, hmd, hla, hct), wc, wd, sg, ln, pl, ch, nu, wb, capw, wl, wn, isv, lf, kk, kr, kd, kr2, kd2, capE, mc, PP) 11 = (3, 0) := by
    show F_X10_account PP cs mp cn sn (nI N9) tk av lo md hct ln 11 = _
    unfold F_X10_account
    rw [if_neg (by decide), if_neg (by decide), if_neg (by decide), if_neg (by decide), if_neg (by decide), if_neg (by decide), if_neg (by decide), if_neg (by decide), if_neg (by decide), if_neg (by decide), if_neg (by decide)]
  unfold F_L_account
  rw [e]
  rfl
theorem qv_ac2 {N : MS} {N9 : Nat} (hn : nS N.1 = nI N9) (h3 : 3 ≤ N9) (h6 : N9 ≤ 6) : F_L_account N (-1) = (-1001, N, 1, 6) := by
  obtain ⟨⟨ds, cs, mp, pk, cap, cn, sn, n, tk, av, lo, md⟩, ⟨ds_t, cs_t, mp_t, pk_t, cap_t, cn_t, sn_t, n_t, tk_t, av_t, lo_t, md_t⟩, ⟨ds_s, cs_s, mp_s, pk_s, cap_s, cn_s, sn_s, n_s, tk_s, av_s, lo_s, md_s⟩, ⟨hds, hcs, hmp, hpk, hcap, hcn, hsn, hn, htk, hav, hlo, hmd, hla, hct⟩, wc, wd, sg, ln, pl, ch, nu, wb, capw, wl, wn, isv, lf, kk, kr, kd, kr2, kd2, capE, mc, PP⟩ := N
  replace hn : n = nI N9 := hn
  subst hn
  have e : FF_X10_account ((ds, cs, mp, pk, cap, cn, sn, nI N9, tk, av, lo, md), (ds_t, cs_t, mp_t, pk_t, cap_t, cn_t, sn_t, n_t, tk_t, av_t, lo_t, md_t), (ds_s, cs_s, mp_s, pk_s, cap_s, cn_s, sn_s, n_s, tk_s, av_s, lo_s, md_s), (hds, hcs, hmp, hpk, hcap, hcn, hsn, hn, htk, hav, hlo, hmd, hla, hct), wc, wd, sg, ln, pl, ch, nu, wb, capw, wl, wn, isv, lf, kk, kr, kd, kr2, kd2, capE, mc, PP) (-1) = (3, 0) := by
    show F_X10_account PP cs mp cn sn (nI N9) tk av lo md hct ln (-1) = _
    unfold F_X10_account
    rw [if_neg (by decide), if_neg (by decide), if_neg (by decide), if_neg (by decide), if_neg (by decide), if_neg (by decide), if_neg (by decide), if_neg (by decide), if_neg (by decide), if_neg (by decide), if_neg (by decide)]
  unfold F_L_account
  rw [e]
  rfl
theorem ahead_loop {PP : List PG} {ds cs mp : Nat → Int32} {N9 : Nat} (h6 : N9 ≤ 6) {x : Nat} (hx : x < N9) : ∀ (m i c : Nat), i + m = N9 → c ≤ i → ∃ c' : Nat, K_X8_countAhead_4 (L_X8_countAhead_4 PP ds cs mp (nI N9) (nI x) (m + 1) (nI c) (nI i)) = nI c' ∧ c' ≤ c + m ∧ (i ≤ x → c' + 1 ≤ c + m) := by
  intro m
  induction m with
  | zero =>
    intro i c hi hc
    rw [show L_X8_countAhead_4 PP ds cs mp (nI N9) (nI x) (0 + 1) (nI c) (nI i) = B_X8_countAhead_4 PP ds cs mp (nI N9) (nI x) (L_X8_countAhead_4 PP ds cs mp (nI N9) (nI x) 0) (nI c) (nI i) from rfl]
    unfold B_X8_countAhead_4
    rw [if_pos (by rw [qI_le (by omega) (by omega)]; omega)]
    exact ⟨c, rfl, by omega, fun z => by omega⟩
  | succ m ih =>
    intro i c hi hc
    rw [show L_X8_countAhead_4 PP ds cs mp (nI N9) (nI x) (m + 1 + 1) (nI c) (nI i) = B_X8_countAhead_4 PP ds cs mp (nI N9) (nI x) (L_X8_countAhead_4 PP ds cs mp (nI N9) (nI x) (m + 1)) (nI c) (nI i) from rfl]
    unfold B_X8_countAhead_4
    rw [if_neg (by rw [qI_le (by omega) (by omega)]; omega), qI_succ (show i + 1 < 2 ^ 31 by omega), qI_succ (show c + 1 < 2 ^ 31 by omega)]
    obtain ⟨c1, e1, f1, g1⟩ := ih (i + 1) c (by omega) (by omega)
    obtain ⟨c2, e2, f2, g2⟩ := ih (i + 1) (c + 1) (by omega) (by omega)
    by_cases hix : i = x
    · subst hix
      rw [if_pos (Int32.sub_self _), if_pos (Int32.sub_self _), if_pos (by rw [Int32.sub_self]; decide)]
      exact ⟨c1, e1, by omega, fun z => by omega⟩
    · repeat' split
      all_goals first | exact ⟨c1, e1, by omega, fun z => by have := g1 (by omega); omega⟩ | exact ⟨c2, e2, by omega, fun z => by have := g2 (by omega); omega⟩
theorem ahead_lt {PP : List PG} {ds cs mp : Nat → Int32} {N9 : Nat} (h6 : N9 ≤ 6) {x : Nat} (hx : x < N9) : ∃ c : Nat, F_X8_countAhead PP ds cs mp (nI N9) (nI x) = nI c ∧ c < N9 := by
  unfold F_X8_countAhead
  rw [show (((nI N9 : Int32).toInt - (0 : Int32).toInt).toNat + 1) = N9 + 1 from by rw [nI_toInt (by omega), i0]; omega]
  obtain ⟨c, e, _, g⟩ := ahead_loop (PP := PP) (ds := ds) (cs := cs) (mp := mp) h6 hx N9 0 0 (by omega) (by omega)
  exact ⟨c, e, by have := g (by omega); omega⟩
theorem busy_loop {PP : List PG} {ds cs mp : Nat → Int32} {N9 : Nat} (h6 : N9 ≤ 6) {a : Int32} (ha : ∀ c, c < N9 → ¬ nI c = a) : ∀ (m i : Nat), i + m = N9 → ∃ z, L_X10_busiest_2 PP ds cs mp (nI N9) a (m + 1) (nI i) = (none, z) := by
  intro m
  induction m with
  | zero =>
    intro i hi
    rw [show L_X10_busiest_2 PP ds cs mp (nI N9) a (0 + 1) (nI i) = B_X10_busiest_2 PP ds cs mp (nI N9) a (L_X10_busiest_2 PP ds cs mp (nI N9) a 0) (nI i) from rfl]
    unfold B_X10_busiest_2
    rw [if_pos (by rw [qI_le (by omega) (by omega)]; omega)]
    exact ⟨_, rfl⟩
  | succ m ih =>
    intro i hi
    rw [show L_X10_busiest_2 PP ds cs mp (nI N9) a (m + 1 + 1) (nI i) = B_X10_busiest_2 PP ds cs mp (nI N9) a (L_X10_busiest_2 PP ds cs mp (nI N9) a (m + 1)) (nI i) from rfl]
    unfold B_X10_busiest_2
    obtain ⟨c, e, hc⟩ := ahead_lt (PP := PP) (ds := ds) (cs := cs) (mp := mp) h6 (x := i) (by omega)
    rw [if_neg (by rw [qI_le (by omega) (by omega)]; omega), e, if_neg (ha c hc), qI_succ (by omega)]
    exact ih (i + 1) (by omega)
theorem qv_bu1 {N : MS} {N9 : Nat} (hn : nS N.1 = nI N9) (h3 : 3 ≤ N9) (h6 : N9 ≤ 6) : F_L_busiest N (nI N9) = (-1001, N, 1, 6) := by
  obtain ⟨⟨ds, cs, mp, pk, cap, cn, sn, n, tk, av, lo, md⟩, ⟨ds_t, cs_t, mp_t, pk_t, cap_t, cn_t, sn_t, n_t, tk_t, av_t, lo_t, md_t⟩, ⟨ds_s, cs_s, mp_s, pk_s, cap_s, cn_s, sn_s, n_s, tk_s, av_s, lo_s, md_s⟩, ⟨hds, hcs, hmp, hpk, hcap, hcn, hsn, hn, htk, hav, hlo, hmd, hla, hct⟩, wc, wd, sg, ln, pl, ch, nu, wb, capw, wl, wn, isv, lf, kk, kr, kd, kr2, kd2, capE, mc, PP⟩ := N
  replace hn : n = nI N9 := hn
  subst hn
  have e : FF_X10_busiest ((ds, cs, mp, pk, cap, cn, sn, nI N9, tk, av, lo, md), (ds_t, cs_t, mp_t, pk_t, cap_t, cn_t, sn_t, n_t, tk_t, av_t, lo_t, md_t), (ds_s, cs_s, mp_s, pk_s, cap_s, cn_s, sn_s, n_s, tk_s, av_s, lo_s, md_s), (hds, hcs, hmp, hpk, hcap, hcn, hsn, hn, htk, hav, hlo, hmd, hla, hct), wc, wd, sg, ln, pl, ch, nu, wb, capw, wl, wn, isv, lf, kk, kr, kd, kr2, kd2, capE, mc, PP) (nI N9) = (4, 0) := by
    show F_X10_busiest PP ds cs mp (nI N9) (nI N9) = _
    unfold F_X10_busiest
    rw [show (((nI N9 : Int32).toInt - (0 : Int32).toInt).toNat + 1) = N9 + 1 from by rw [nI_toInt (by omega), i0]; omega]
    obtain ⟨z, e⟩ := busy_loop (PP := PP) (ds := ds) (cs := cs) (mp := mp) h6 (a := nI N9) (fun c hc => by rw [qI_inj (by omega) (by omega)]; omega) N9 0 (by omega)
    rw [show nI 0 = (0 : Int32) from rfl] at e
    rw [e]
    rfl
  unfold F_L_busiest
  rw [e]
  rfl
theorem qv_bu2 {N : MS} {N9 : Nat} (hn : nS N.1 = nI N9) (h3 : 3 ≤ N9) (h6 : N9 ≤ 6) : F_L_busiest N (-1) = (-1001, N, 1, 6) := by
  obtain ⟨⟨ds, cs, mp, pk, cap, cn, sn, n, tk, av, lo, md⟩, ⟨ds_t, cs_t, mp_t, pk_t, cap_t, cn_t, sn_t, n_t, tk_t, av_t, lo_t, md_t⟩, ⟨ds_s, cs_s, mp_s, pk_s, cap_s, cn_s, sn_s, n_s, tk_s, av_s, lo_s, md_s⟩, ⟨hds, hcs, hmp, hpk, hcap, hcn, hsn, hn, htk, hav, hlo, hmd, hla, hct⟩, wc, wd, sg, ln, pl, ch, nu, wb, capw, wl, wn, isv, lf, kk, kr, kd, kr2, kd2, capE, mc, PP⟩ := N
  replace hn : n = nI N9 := hn
  subst hn
  have e : FF_X10_busiest ((ds, cs, mp, pk, cap, cn, sn, nI N9, tk, av, lo, md), (ds_t, cs_t, mp_t, pk_t, cap_t, cn_t, sn_t, n_t, tk_t, av_t, lo_t, md_t), (ds_s, cs_s, mp_s, pk_s, cap_s, cn_s, sn_s, n_s, tk_s, av_s, lo_s, md_s), (hds, hcs, hmp, hpk, hcap, hcn, hsn, hn, htk, hav, hlo, hmd, hla, hct), wc, wd, sg, ln, pl, ch, nu, wb, capw, wl, wn, isv, lf, kk, kr, kd, kr2, kd2, capE, mc, PP) (-1) = (4, 0) := by
    show F_X10_busiest PP ds cs mp (nI N9) (-1) = _
    unfold F_X10_busiest
    rw [show (((nI N9 : Int32).toInt - (0 : Int32).toInt).toNat + 1) = N9 + 1 from by rw [nI_toInt (by omega), i0]; omega]
    obtain ⟨z, e⟩ := busy_loop (PP := PP) (ds := ds) (cs := cs) (mp := mp) h6 (a := -1) (fun c hc => fun z => by have w := congrArg Int32.toInt z; rw [nI_toInt (by omega), show (-1 : Int32).toInt = -1 from by decide] at w; omega) N9 0 (by omega)
    rw [show nI 0 = (0 : Int32) from rfl] at e
    rw [e]
    rfl
  unfold F_L_busiest
  rw [e]
  rfl
/-- the ways' tables are other ones -/
def setW : MS → (Nat → Int32) → (Nat → Int32) → MS
  | ((ds, cs, mp, pk, cap, cn, sn, n, tk, av, lo, md), (ds_t, cs_t, mp_t, pk_t, cap_t, cn_t, sn_t, n_t, tk_t, av_t, lo_t, md_t), (ds_s, cs_s, mp_s, pk_s, cap_s, cn_s, sn_s, n_s, tk_s, av_s, lo_s, md_s), (hds, hcs, hmp, hpk, hcap, hcn, hsn, hn, htk, hav, hlo, hmd, hla, hct), wc, wd, sg, ln, pl, ch, nu, wb, capw, wl, wn, isv, lf, kk, kr, kd, kr2, kd2, capE, mc, PP), a, b => ((ds, cs, mp, pk, cap, cn, sn, n, tk, av, lo, md), (ds_t, cs_t, mp_t, pk_t, cap_t, cn_t, sn_t, n_t, tk_t, av_t, lo_t, md_t), (ds_s, cs_s, mp_s, pk_s, cap_s, cn_s, sn_s, n_s, tk_s, av_s, lo_s, md_s), (hds, hcs, hmp, hpk, hcap, hcn, hsn, hn, htk, hav, hlo, hmd, hla, hct), a, b, sg, ln, pl, ch, nu, wb, capw, wl, wn, isv, lf, kk, kr, kd, kr2, kd2, capE, mc, PP)
theorem OKS.setW {R r d T Bd : Nat} {stk : List SV} {sv : Option SV} {M : MS} (h : OKS R r d T Bd stk sv M) {a b : Nat → Int32} (ha : Zf 36 a) (hb : Zf 6 b) : OKS R r d T Bd stk sv (setW M a b) := by
  obtain ⟨⟨ds, cs, mp, pk, cap, cn, sn, n, tk, av, lo, md⟩, ⟨ds_t, cs_t, mp_t, pk_t, cap_t, cn_t, sn_t, n_t, tk_t, av_t, lo_t, md_t⟩, ⟨ds_s, cs_s, mp_s, pk_s, cap_s, cn_s, sn_s, n_s, tk_s, av_s, lo_s, md_s⟩, ⟨hds, hcs, hmp, hpk, hcap, hcn, hsn, hn, htk, hav, hlo, hmd, hla, hct⟩, wc, wd, sg, ln, pl, ch, nu, wb, capw, wl, wn, isv, lf, kk, kr, kd, kr2, kd2, capE, mc, PP⟩ := M
  obtain ⟨h1, h2, h3, h4, h5, h6, h7, h8, h9, h10, h11⟩ := h
  exact ⟨h1, h2, h3, h4, h5, h6, ha, hb, h9, h10, h11⟩
theorem setW_1 (M : MS) (a b : Nat → Int32) : (setW M a b).1 = M.1 ∧ arch (setW M a b) = arch M := by
  obtain ⟨⟨ds, cs, mp, pk, cap, cn, sn, n, tk, av, lo, md⟩, ⟨ds_t, cs_t, mp_t, pk_t, cap_t, cn_t, sn_t, n_t, tk_t, av_t, lo_t, md_t⟩, ⟨ds_s, cs_s, mp_s, pk_s, cap_s, cn_s, sn_s, n_s, tk_s, av_s, lo_s, md_s⟩, ⟨hds, hcs, hmp, hpk, hcap, hcn, hsn, hn, htk, hav, hlo, hmd, hla, hct⟩, wc, wd, sg, ln, pl, ch, nu, wb, capw, wl, wn, isv, lf, kk, kr, kd, kr2, kd2, capE, mc, PP⟩ := M
  exact ⟨(show (ds, cs, mp, pk, cap, cn, sn, n, tk, av, lo, md) = (ds, cs, mp, pk, cap, cn, sn, n, tk, av, lo, md) from Eq.refl _), (show PP = PP from Eq.refl _)⟩
theorem setW_phs (M : MS) (a b : Nat → Int32) : PHS (setW M a b) = PHS M ∧ PHK (setW M a b) = PHK M := by
  obtain ⟨⟨ds, cs, mp, pk, cap, cn, sn, n, tk, av, lo, md⟩, ⟨ds_t, cs_t, mp_t, pk_t, cap_t, cn_t, sn_t, n_t, tk_t, av_t, lo_t, md_t⟩, ⟨ds_s, cs_s, mp_s, pk_s, cap_s, cn_s, sn_s, n_s, tk_s, av_s, lo_s, md_s⟩, ⟨hds, hcs, hmp, hpk, hcap, hcn, hsn, hn, htk, hav, hlo, hmd, hla, hct⟩, wc, wd, sg, ln, pl, ch, nu, wb, capw, wl, wn, isv, lf, kk, kr, kd, kr2, kd2, capE, mc, PP⟩ := M
  exact ⟨(show 2 * (cap + cap_t + cap_s + hsum hcap) + 2 * capw + 4 * capE + 10 * PP.length = 2 * (cap + cap_t + cap_s + hsum hcap) + 2 * capw + 4 * capE + 10 * PP.length from Eq.refl _), (show 5 * (cap + cap_t + cap_s + hsum hcap) + 320 * capw + 64 * capE + 640 * PP.length = 5 * (cap + cap_t + cap_s + hsum hcap) + 320 * capw + 64 * capE + 640 * PP.length from Eq.refl _)⟩
theorem setW_K (M : MS) (a b : Nat → Int32) (x y : Int32) : setW (setK M x y) a b = setK (setW M a b) x y := by
  obtain ⟨⟨ds, cs, mp, pk, cap, cn, sn, n, tk, av, lo, md⟩, ⟨ds_t, cs_t, mp_t, pk_t, cap_t, cn_t, sn_t, n_t, tk_t, av_t, lo_t, md_t⟩, ⟨ds_s, cs_s, mp_s, pk_s, cap_s, cn_s, sn_s, n_s, tk_s, av_s, lo_s, md_s⟩, ⟨hds, hcs, hmp, hpk, hcap, hcn, hsn, hn, htk, hav, hlo, hmd, hla, hct⟩, wc, wd, sg, ln, pl, ch, nu, wb, capw, wl, wn, isv, lf, kk, kr, kd, kr2, kd2, capE, mc, PP⟩ := M
  exact (show ((ds, cs, mp, pk, cap, cn, sn, n, tk, av, lo, md), (ds_t, cs_t, mp_t, pk_t, cap_t, cn_t, sn_t, n_t, tk_t, av_t, lo_t, md_t), (ds_s, cs_s, mp_s, pk_s, cap_s, cn_s, sn_s, n_s, tk_s, av_s, lo_s, md_s), (hds, hcs, hmp, hpk, hcap, hcn, hsn, hn, htk, hav, hlo, hmd, hla, hct), a, b, sg, ln, pl, ch, nu, wb, capw, wl, wn, isv, lf, 1, x, y, kr2, kd2, capE, mc, PP) = ((ds, cs, mp, pk, cap, cn, sn, n, tk, av, lo, md), (ds_t, cs_t, mp_t, pk_t, cap_t, cn_t, sn_t, n_t, tk_t, av_t, lo_t, md_t), (ds_s, cs_s, mp_s, pk_s, cap_s, cn_s, sn_s, n_s, tk_s, av_s, lo_s, md_s), (hds, hcs, hmp, hpk, hcap, hcn, hsn, hn, htk, hav, hlo, hmd, hla, hct), a, b, sg, ln, pl, ch, nu, wb, capw, wl, wn, isv, lf, 1, x, y, kr2, kd2, capE, mc, PP) from Eq.refl _)
theorem qv_ne2 {N : MS} {N9 : Nat} (hn : nS N.1 = nI N9) (h3 : 3 ≤ N9) (h6 : N9 ≤ 6) (w1 : Zf 36 (tabs N).1) (w2 : Zf 6 (tabs N).2) : ∃ a b, Zf 36 a ∧ Zf 6 b ∧ F_L_next N 0 0 = (-1002, setW N a b, 3, 18) := by
  obtain ⟨⟨ds, cs, mp, pk, cap, cn, sn, n, tk, av, lo, md⟩, ⟨ds_t, cs_t, mp_t, pk_t, cap_t, cn_t, sn_t, n_t, tk_t, av_t, lo_t, md_t⟩, ⟨ds_s, cs_s, mp_s, pk_s, cap_s, cn_s, sn_s, n_s, tk_s, av_s, lo_s, md_s⟩, ⟨hds, hcs, hmp, hpk, hcap, hcn, hsn, hn, htk, hav, hlo, hmd, hla, hct⟩, wc, wd, sg, ln, pl, ch, nu, wb, capw, wl, wn, isv, lf, kk, kr, kd, kr2, kd2, capE, mc, PP⟩ := N
  replace hn : n = nI N9 := hn
  subst hn
  replace w1 : Zf 36 wc := w1
  replace w2 : Zf 6 wd := w2
  have e : FF_X10_next ((ds, cs, mp, pk, cap, cn, sn, nI N9, tk, av, lo, md), (ds_t, cs_t, mp_t, pk_t, cap_t, cn_t, sn_t, n_t, tk_t, av_t, lo_t, md_t), (ds_s, cs_s, mp_s, pk_s, cap_s, cn_s, sn_s, n_s, tk_s, av_s, lo_s, md_s), (hds, hcs, hmp, hpk, hcap, hcn, hsn, hn, htk, hav, hlo, hmd, hla, hct), wc, wd, sg, ln, pl, ch, nu, wb, capw, wl, wn, isv, lf, kk, kr, kd, kr2, kd2, capE, mc, PP) 0 0 = (4, 0, F_X9_takeMap wc PP mp 0, F_X9_nearestFirst (F_X9_takeMap wc PP mp 0) wd 0) := by
    show F_X10_next PP mp (nI N9) wc wd 0 0 = _
    unfold F_X10_next
    rw [ns_0 h3 h6, if_pos rfl, if_pos rfl]
    unfold F_X10_nextByMap F_X9_firstStep
    rw [if_pos rfl, if_pos rfl]
  refine ⟨F_X9_takeMap wc PP mp 0, F_X9_nearestFirst (F_X9_takeMap wc PP mp 0) wd 0, tm_Z 0 w1, nF_Z 0 w2, ?_⟩
  unfold F_L_next
  rw [e]
  unfold K_L_next_3
  rw [if_neg (show ¬ (4 : Nat) = 0 from by decide), if_neg (show ¬ (4 : Nat) = 2 from by decide)]
  rfl
theorem OKS.own {R r d T Bd : Nat} {stk : List SV} {sv : Option SV} {M : MS} (h : OKS R r d T Bd stk sv M) : M.1.2.1 0 = 0 ∧ F_X6_costTo ((pgd (arch M) (F_X8_pageIn (arch M) M.1.2.2.1 0 0)).2.2.2) 0 = 0 ∧ 0 ≤ (M.1.1 0).toInt ∧ (M.1.1 0).toInt ≤ 2 ∧ (bufs M).1.toInt ≤ 198 ∧ Zf 36 (tabs M).1 ∧ Zf 6 (tabs M).2 := by
  obtain ⟨⟨ds, cs, mp, pk, cap, cn, sn, n, tk, av, lo, md⟩, ⟨ds_t, cs_t, mp_t, pk_t, cap_t, cn_t, sn_t, n_t, tk_t, av_t, lo_t, md_t⟩, ⟨ds_s, cs_s, mp_s, pk_s, cap_s, cn_s, sn_s, n_s, tk_s, av_s, lo_s, md_s⟩, ⟨hds, hcs, hmp, hpk, hcap, hcn, hsn, hn, htk, hav, hlo, hmd, hla, hct⟩, wc, wd, sg, ln, pl, ch, nu, wb, capw, wl, wn, isv, lf, kk, kr, kd, kr2, kd2, capE, mc, PP⟩ := M
  obtain ⟨hG, hPl, hTr, hSa, hSv, hRg, w1, w2, w3, w4, w5⟩ := h
  obtain ⟨⟨M1, lt, N, f, g1, g2, g3, g4, g5, g6, g7, g8, g10, g11, g12, goz⟩, _⟩ := hG
  refine ⟨g5.2 0 (by omega), ?_, (g8 0 (by omega)).1, (g8 0 (by omega)).2, w4, w1, w2⟩
  have e := SIM.page g1 (a := 0) (b := 0) (by omega) (by omega)
  rw [show nI 0 = (0 : Int32) from rfl] at e
  show F_X6_costTo ((pgd PP (F_X8_pageIn PP mp 0 0)).2.2.2) 0 = 0
  rw [e]
  unfold F_X6_costTo
  rw [if_neg (by decide), if_neg (by decide)]
  exact goz 0
theorem qv_so0 {N : MS} {N9 : Nat} (hn : nS N.1 = nI N9) (h3 : 3 ≤ N9) (h6 : N9 ≤ 6) : F_L_surveyorOf N 0 0 = (N.1.1 0, N, 2, 12) := by
  obtain ⟨⟨ds, cs, mp, pk, cap, cn, sn, n, tk, av, lo, md⟩, ⟨ds_t, cs_t, mp_t, pk_t, cap_t, cn_t, sn_t, n_t, tk_t, av_t, lo_t, md_t⟩, ⟨ds_s, cs_s, mp_s, pk_s, cap_s, cn_s, sn_s, n_s, tk_s, av_s, lo_s, md_s⟩, ⟨hds, hcs, hmp, hpk, hcap, hcn, hsn, hn, htk, hav, hlo, hmd, hla, hct⟩, wc, wd, sg, ln, pl, ch, nu, wb, capw, wl, wn, isv, lf, kk, kr, kd, kr2, kd2, capE, mc, PP⟩ := N
  replace hn : n = nI N9 := hn
  subst hn
  have e : FF_X10_surveyorOf ((ds, cs, mp, pk, cap, cn, sn, nI N9, tk, av, lo, md), (ds_t, cs_t, mp_t, pk_t, cap_t, cn_t, sn_t, n_t, tk_t, av_t, lo_t, md_t), (ds_s, cs_s, mp_s, pk_s, cap_s, cn_s, sn_s, n_s, tk_s, av_s, lo_s, md_s), (hds, hcs, hmp, hpk, hcap, hcn, hsn, hn, htk, hav, hlo, hmd, hla, hct), wc, wd, sg, ln, pl, ch, nu, wb, capw, wl, wn, isv, lf, kk, kr, kd, kr2, kd2, capE, mc, PP) 0 0 = (0, ds 0) := by
    show F_X10_surveyorOf PP ds cs mp pk cn (nI N9) 0 0 = _
    unfold F_X10_surveyorOf
    rw [ns_0 h3 h6, if_pos rfl, if_pos rfl, show F_X8_districtOf ds (nI N9) 0 = ds 0 from dist_nI (a := 0) h6 (by omega)]
  unfold F_L_surveyorOf
  rw [e]
  rfl
