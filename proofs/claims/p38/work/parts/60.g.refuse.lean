/-! REFUSED CHANGES -/
def setK : MS → Int32 → Int32 → MS
  | ((ds, cs, mp, pk, cap, cn, sn, n, tk, av, lo, md), (ds_t, cs_t, mp_t, pk_t, cap_t, cn_t, sn_t, n_t, tk_t, av_t, lo_t, md_t), (ds_s, cs_s, mp_s, pk_s, cap_s, cn_s, sn_s, n_s, tk_s, av_s, lo_s, md_s), (hds, hcs, hmp, hpk, hcap, hcn, hsn, hn, htk, hav, hlo, hmd, hla, hct), wc, wd, sg, ln, pl, ch, nu, wb, capw, wl, wn, isv, lf, kk, kr, kd, kr2, kd2, capE, mc, PP), r, d => ((ds, cs, mp, pk, cap, cn, sn, n, tk, av, lo, md), (ds_t, cs_t, mp_t, pk_t, cap_t, cn_t, sn_t, n_t, tk_t, av_t, lo_t, md_t), (ds_s, cs_s, mp_s, pk_s, cap_s, cn_s, sn_s, n_s, tk_s, av_s, lo_s, md_s), (hds, hcs, hmp, hpk, hcap, hcn, hsn, hn, htk, hav, hlo, hmd, hla, hct), wc, wd, sg, ln, pl, ch, nu, wb, capw, wl, wn, isv, lf, 1, r, d, kr2, kd2, capE, mc, PP)
theorem OKS.setK {R r d T Bd : Nat} {stk : List SV} {sv : Option SV} {M : MS} (h : OKS R r d T Bd stk sv M) (a b : Int32) : OKS R r d T Bd stk sv (setK M a b) := by
  obtain ⟨⟨ds, cs, mp, pk, cap, cn, sn, n, tk, av, lo, md⟩, ⟨ds_t, cs_t, mp_t, pk_t, cap_t, cn_t, sn_t, n_t, tk_t, av_t, lo_t, md_t⟩, ⟨ds_s, cs_s, mp_s, pk_s, cap_s, cn_s, sn_s, n_s, tk_s, av_s, lo_s, md_s⟩, ⟨hds, hcs, hmp, hpk, hcap, hcn, hsn, hn, htk, hav, hlo, hmd, hla, hct⟩, wc, wd, sg, ln, pl, ch, nu, wb, capw, wl, wn, isv, lf, kk, kr, kd, kr2, kd2, capE, mc, PP⟩ := M
  obtain ⟨h1, h2, h3, h4, h5, h6, h7, h8, h9, h10, h11⟩ := h
  exact ⟨h1, h2, h3, h4, h5, h6, h7, h8, h9, h10, h11⟩
theorem setK_1 (M : MS) (a b : Int32) : (setK M a b).1 = M.1 := by
  obtain ⟨⟨ds, cs, mp, pk, cap, cn, sn, n, tk, av, lo, md⟩, ⟨ds_t, cs_t, mp_t, pk_t, cap_t, cn_t, sn_t, n_t, tk_t, av_t, lo_t, md_t⟩, ⟨ds_s, cs_s, mp_s, pk_s, cap_s, cn_s, sn_s, n_s, tk_s, av_s, lo_s, md_s⟩, ⟨hds, hcs, hmp, hpk, hcap, hcn, hsn, hn, htk, hav, hlo, hmd, hla, hct⟩, wc, wd, sg, ln, pl, ch, nu, wb, capw, wl, wn, isv, lf, kk, kr, kd, kr2, kd2, capE, mc, PP⟩ := M
  exact (show (ds, cs, mp, pk, cap, cn, sn, n, tk, av, lo, md) = (ds, cs, mp, pk, cap, cn, sn, n, tk, av, lo, md) from Eq.refl _)
theorem setK_arch (M : MS) (a b : Int32) : arch (setK M a b) = arch M := by
  obtain ⟨⟨ds, cs, mp, pk, cap, cn, sn, n, tk, av, lo, md⟩, ⟨ds_t, cs_t, mp_t, pk_t, cap_t, cn_t, sn_t, n_t, tk_t, av_t, lo_t, md_t⟩, ⟨ds_s, cs_s, mp_s, pk_s, cap_s, cn_s, sn_s, n_s, tk_s, av_s, lo_s, md_s⟩, ⟨hds, hcs, hmp, hpk, hcap, hcn, hsn, hn, htk, hav, hlo, hmd, hla, hct⟩, wc, wd, sg, ln, pl, ch, nu, wb, capw, wl, wn, isv, lf, kk, kr, kd, kr2, kd2, capE, mc, PP⟩ := M
  exact (show PP = PP from Eq.refl _)
theorem setK_phs (M : MS) (a b : Int32) : PHS (setK M a b) = PHS M ∧ PHK (setK M a b) = PHK M := by
  obtain ⟨⟨ds, cs, mp, pk, cap, cn, sn, n, tk, av, lo, md⟩, ⟨ds_t, cs_t, mp_t, pk_t, cap_t, cn_t, sn_t, n_t, tk_t, av_t, lo_t, md_t⟩, ⟨ds_s, cs_s, mp_s, pk_s, cap_s, cn_s, sn_s, n_s, tk_s, av_s, lo_s, md_s⟩, ⟨hds, hcs, hmp, hpk, hcap, hcn, hsn, hn, htk, hav, hlo, hmd, hla, hct⟩, wc, wd, sg, ln, pl, ch, nu, wb, capw, wl, wn, isv, lf, kk, kr, kd, kr2, kd2, capE, mc, PP⟩ := M
  exact ⟨(show 2 * (cap + cap_t + cap_s + hsum hcap) + 2 * capw + 4 * capE + 10 * PP.length = 2 * (cap + cap_t + cap_s + hsum hcap) + 2 * capw + 4 * capE + 10 * PP.length from Eq.refl _), (show 5 * (cap + cap_t + cap_s + hsum hcap) + 320 * capw + 64 * capE + 640 * PP.length = 5 * (cap + cap_t + cap_s + hsum hcap) + 320 * capw + 64 * capE + 640 * PP.length from Eq.refl _)⟩
theorem setK_setK (M : MS) (a b c d : Int32) : setK (setK M a b) c d = setK M c d := by
  obtain ⟨⟨ds, cs, mp, pk, cap, cn, sn, n, tk, av, lo, md⟩, ⟨ds_t, cs_t, mp_t, pk_t, cap_t, cn_t, sn_t, n_t, tk_t, av_t, lo_t, md_t⟩, ⟨ds_s, cs_s, mp_s, pk_s, cap_s, cn_s, sn_s, n_s, tk_s, av_s, lo_s, md_s⟩, ⟨hds, hcs, hmp, hpk, hcap, hcn, hsn, hn, htk, hav, hlo, hmd, hla, hct⟩, wc, wd, sg, ln, pl, ch, nu, wb, capw, wl, wn, isv, lf, kk, kr, kd, kr2, kd2, capE, mc, PP⟩ := M
  exact (show ((ds, cs, mp, pk, cap, cn, sn, n, tk, av, lo, md), (ds_t, cs_t, mp_t, pk_t, cap_t, cn_t, sn_t, n_t, tk_t, av_t, lo_t, md_t), (ds_s, cs_s, mp_s, pk_s, cap_s, cn_s, sn_s, n_s, tk_s, av_s, lo_s, md_s), (hds, hcs, hmp, hpk, hcap, hcn, hsn, hn, htk, hav, hlo, hmd, hla, hct), wc, wd, sg, ln, pl, ch, nu, wb, capw, wl, wn, isv, lf, 1, c, d, kr2, kd2, capE, mc, PP) = ((ds, cs, mp, pk, cap, cn, sn, n, tk, av, lo, md), (ds_t, cs_t, mp_t, pk_t, cap_t, cn_t, sn_t, n_t, tk_t, av_t, lo_t, md_t), (ds_s, cs_s, mp_s, pk_s, cap_s, cn_s, sn_s, n_s, tk_s, av_s, lo_s, md_s), (hds, hcs, hmp, hpk, hcap, hcn, hsn, hn, htk, hav, hlo, hmd, hla, hct), wc, wd, sg, ln, pl, ch, nu, wb, capw, wl, wn, isv, lf, 1, c, d, kr2, kd2, capE, mc, PP) from Eq.refl _)
theorem ref_come (M : MS) {k9 k8 : Int32} (h : F_X8_against_ad0 (nS M.1) = (1, k9, k8)) : OQ 20 100 M (F_L_come M) (fun v N => v = -1001 ∧ N = setK M k9 k8) := by
  obtain ⟨⟨ds, cs, mp, pk, cap, cn, sn, n, tk, av, lo, md⟩, ⟨ds_t, cs_t, mp_t, pk_t, cap_t, cn_t, sn_t, n_t, tk_t, av_t, lo_t, md_t⟩, ⟨ds_s, cs_s, mp_s, pk_s, cap_s, cn_s, sn_s, n_s, tk_s, av_s, lo_s, md_s⟩, ⟨hds, hcs, hmp, hpk, hcap, hcn, hsn, hn, htk, hav, hlo, hmd, hla, hct⟩, wc, wd, sg, ln, pl, ch, nu, wb, capw, wl, wn, isv, lf, kk, kr, kd, kr2, kd2, capE, mc, PP⟩ := M
  replace h : F_X8_against_ad0 n = (1, k9, k8) := h
  obtain ⟨C, S, e3, hC, hS⟩ : ∃ C S, F_L_come ((ds, cs, mp, pk, cap, cn, sn, n, tk, av, lo, md), (ds_t, cs_t, mp_t, pk_t, cap_t, cn_t, sn_t, n_t, tk_t, av_t, lo_t, md_t), (ds_s, cs_s, mp_s, pk_s, cap_s, cn_s, sn_s, n_s, tk_s, av_s, lo_s, md_s), (hds, hcs, hmp, hpk, hcap, hcn, hsn, hn, htk, hav, hlo, hmd, hla, hct), wc, wd, sg, ln, pl, ch, nu, wb, capw, wl, wn, isv, lf, kk, kr, kd, kr2, kd2, capE, mc, PP) = (-1001, (setK ((ds, cs, mp, pk, cap, cn, sn, n, tk, av, lo, md), (ds_t, cs_t, mp_t, pk_t, cap_t, cn_t, sn_t, n_t, tk_t, av_t, lo_t, md_t), (ds_s, cs_s, mp_s, pk_s, cap_s, cn_s, sn_s, n_s, tk_s, av_s, lo_s, md_s), (hds, hcs, hmp, hpk, hcap, hcn, hsn, hn, htk, hav, hlo, hmd, hla, hct), wc, wd, sg, ln, pl, ch, nu, wb, capw, wl, wn, isv, lf, kk, kr, kd, kr2, kd2, capE, mc, PP) k9 k8), C, S) ∧ C ≤ 20 ∧ S ≤ 100 := by
    unfold F_L_come
    simp only [FF_X10_come]
    unfold F_X10_come
    generalize hX : F_X10_change_ad0 capE PP mc ds cs mp pk cap cn sn n tk av lo md hds hcs hmp hpk hcap hcn hsn hn htk hav hlo hmd hla hct = X
    unfold F_X10_change_ad0 at hX
    rw [h, if_neg (show ¬ (1 : Nat) = 0 from by decide)] at hX
    subst hX
    unfold K_L_come_1
    simp only [show ¬ (1 : Nat) = 0 from by decide, if_false, adc]
    exact ⟨_, _, rfl, by decide, by decide⟩
  exact OQ.eq e3 ⟨Eq.refl _, Eq.refl _⟩ hC hS (setK_phs _ _ _).1 (setK_phs _ _ _).2
theorem ref_canal (M : MS) (a b v9 : Int32) {k9 k8 : Int32} (h : F_X8_against_ad1 M.1.2.1 (nS M.1) a b v9 = (1, k9, k8)) : OQ 20 100 M (F_L_canal M a b v9) (fun v N => v = -1001 ∧ N = setK M k9 k8) := by
  obtain ⟨⟨ds, cs, mp, pk, cap, cn, sn, n, tk, av, lo, md⟩, ⟨ds_t, cs_t, mp_t, pk_t, cap_t, cn_t, sn_t, n_t, tk_t, av_t, lo_t, md_t⟩, ⟨ds_s, cs_s, mp_s, pk_s, cap_s, cn_s, sn_s, n_s, tk_s, av_s, lo_s, md_s⟩, ⟨hds, hcs, hmp, hpk, hcap, hcn, hsn, hn, htk, hav, hlo, hmd, hla, hct⟩, wc, wd, sg, ln, pl, ch, nu, wb, capw, wl, wn, isv, lf, kk, kr, kd, kr2, kd2, capE, mc, PP⟩ := M
  replace h : F_X8_against_ad1 cs n a b v9 = (1, k9, k8) := h
  obtain ⟨C, S, e3, hC, hS⟩ : ∃ C S, F_L_canal ((ds, cs, mp, pk, cap, cn, sn, n, tk, av, lo, md), (ds_t, cs_t, mp_t, pk_t, cap_t, cn_t, sn_t, n_t, tk_t, av_t, lo_t, md_t), (ds_s, cs_s, mp_s, pk_s, cap_s, cn_s, sn_s, n_s, tk_s, av_s, lo_s, md_s), (hds, hcs, hmp, hpk, hcap, hcn, hsn, hn, htk, hav, hlo, hmd, hla, hct), wc, wd, sg, ln, pl, ch, nu, wb, capw, wl, wn, isv, lf, kk, kr, kd, kr2, kd2, capE, mc, PP) a b v9 = (-1001, (setK ((ds, cs, mp, pk, cap, cn, sn, n, tk, av, lo, md), (ds_t, cs_t, mp_t, pk_t, cap_t, cn_t, sn_t, n_t, tk_t, av_t, lo_t, md_t), (ds_s, cs_s, mp_s, pk_s, cap_s, cn_s, sn_s, n_s, tk_s, av_s, lo_s, md_s), (hds, hcs, hmp, hpk, hcap, hcn, hsn, hn, htk, hav, hlo, hmd, hla, hct), wc, wd, sg, ln, pl, ch, nu, wb, capw, wl, wn, isv, lf, kk, kr, kd, kr2, kd2, capE, mc, PP) k9 k8), C, S) ∧ C ≤ 20 ∧ S ≤ 100 := by
    unfold F_L_canal
    simp only [FF_X10_canal]
    unfold F_X10_canal
    generalize hX : F_X10_change_ad1 capE PP mc ds cs mp pk cap cn sn n tk av lo md hds hcs hmp hpk hcap hcn hsn hn htk hav hlo hmd hla hct a b v9 = X
    unfold F_X10_change_ad1 at hX
    rw [h, if_neg (show ¬ (1 : Nat) = 0 from by decide)] at hX
    subst hX
    unfold K_L_canal_4
    simp only [show ¬ (1 : Nat) = 0 from by decide, if_false, adc]
    exact ⟨_, _, rfl, by decide, by decide⟩
  exact OQ.eq e3 ⟨Eq.refl _, Eq.refl _⟩ hC hS (setK_phs _ _ _).1 (setK_phs _ _ _).2
theorem ref_close (M : MS) (a b : Int32) {k9 k8 : Int32} (h : F_X8_against_ad2 M.1.2.1 (nS M.1) a b = (1, k9, k8)) : OQ 20 100 M (F_L_close M a b) (fun v N => v = -1001 ∧ N = setK M k9 k8) := by
  obtain ⟨⟨ds, cs, mp, pk, cap, cn, sn, n, tk, av, lo, md⟩, ⟨ds_t, cs_t, mp_t, pk_t, cap_t, cn_t, sn_t, n_t, tk_t, av_t, lo_t, md_t⟩, ⟨ds_s, cs_s, mp_s, pk_s, cap_s, cn_s, sn_s, n_s, tk_s, av_s, lo_s, md_s⟩, ⟨hds, hcs, hmp, hpk, hcap, hcn, hsn, hn, htk, hav, hlo, hmd, hla, hct⟩, wc, wd, sg, ln, pl, ch, nu, wb, capw, wl, wn, isv, lf, kk, kr, kd, kr2, kd2, capE, mc, PP⟩ := M
  replace h : F_X8_against_ad2 cs n a b = (1, k9, k8) := h
  obtain ⟨C, S, e3, hC, hS⟩ : ∃ C S, F_L_close ((ds, cs, mp, pk, cap, cn, sn, n, tk, av, lo, md), (ds_t, cs_t, mp_t, pk_t, cap_t, cn_t, sn_t, n_t, tk_t, av_t, lo_t, md_t), (ds_s, cs_s, mp_s, pk_s, cap_s, cn_s, sn_s, n_s, tk_s, av_s, lo_s, md_s), (hds, hcs, hmp, hpk, hcap, hcn, hsn, hn, htk, hav, hlo, hmd, hla, hct), wc, wd, sg, ln, pl, ch, nu, wb, capw, wl, wn, isv, lf, kk, kr, kd, kr2, kd2, capE, mc, PP) a b = (-1001, (setK ((ds, cs, mp, pk, cap, cn, sn, n, tk, av, lo, md), (ds_t, cs_t, mp_t, pk_t, cap_t, cn_t, sn_t, n_t, tk_t, av_t, lo_t, md_t), (ds_s, cs_s, mp_s, pk_s, cap_s, cn_s, sn_s, n_s, tk_s, av_s, lo_s, md_s), (hds, hcs, hmp, hpk, hcap, hcn, hsn, hn, htk, hav, hlo, hmd, hla, hct), wc, wd, sg, ln, pl, ch, nu, wb, capw, wl, wn, isv, lf, kk, kr, kd, kr2, kd2, capE, mc, PP) k9 k8), C, S) ∧ C ≤ 20 ∧ S ≤ 100 := by
    unfold F_L_close
    simp only [FF_X10_close]
    unfold F_X10_close
    generalize hX : F_X10_change_ad2 capE PP mc ds cs mp pk cap cn sn n tk av lo md hds hcs hmp hpk hcap hcn hsn hn htk hav hlo hmd hla hct a b = X
    unfold F_X10_change_ad2 at hX
    rw [h, if_neg (show ¬ (1 : Nat) = 0 from by decide)] at hX
    subst hX
    unfold K_L_close_3
    simp only [show ¬ (1 : Nat) = 0 from by decide, if_false, adc]
    exact ⟨_, _, rfl, by decide, by decide⟩
  exact OQ.eq e3 ⟨Eq.refl _, Eq.refl _⟩ hC hS (setK_phs _ _ _).1 (setK_phs _ _ _).2
theorem ref_district (M : MS) (a v9 : Int32) {k9 k8 : Int32} (h : F_X8_against_ad3 M.1.1 (nS M.1) a v9 = (1, k9, k8)) : OQ 20 100 M (F_L_district M a v9) (fun v N => v = -1001 ∧ N = setK M k9 k8) := by
  obtain ⟨⟨ds, cs, mp, pk, cap, cn, sn, n, tk, av, lo, md⟩, ⟨ds_t, cs_t, mp_t, pk_t, cap_t, cn_t, sn_t, n_t, tk_t, av_t, lo_t, md_t⟩, ⟨ds_s, cs_s, mp_s, pk_s, cap_s, cn_s, sn_s, n_s, tk_s, av_s, lo_s, md_s⟩, ⟨hds, hcs, hmp, hpk, hcap, hcn, hsn, hn, htk, hav, hlo, hmd, hla, hct⟩, wc, wd, sg, ln, pl, ch, nu, wb, capw, wl, wn, isv, lf, kk, kr, kd, kr2, kd2, capE, mc, PP⟩ := M
  replace h : F_X8_against_ad3 ds n a v9 = (1, k9, k8) := h
  obtain ⟨C, S, e3, hC, hS⟩ : ∃ C S, F_L_district ((ds, cs, mp, pk, cap, cn, sn, n, tk, av, lo, md), (ds_t, cs_t, mp_t, pk_t, cap_t, cn_t, sn_t, n_t, tk_t, av_t, lo_t, md_t), (ds_s, cs_s, mp_s, pk_s, cap_s, cn_s, sn_s, n_s, tk_s, av_s, lo_s, md_s), (hds, hcs, hmp, hpk, hcap, hcn, hsn, hn, htk, hav, hlo, hmd, hla, hct), wc, wd, sg, ln, pl, ch, nu, wb, capw, wl, wn, isv, lf, kk, kr, kd, kr2, kd2, capE, mc, PP) a v9 = (-1001, (setK ((ds, cs, mp, pk, cap, cn, sn, n, tk, av, lo, md), (ds_t, cs_t, mp_t, pk_t, cap_t, cn_t, sn_t, n_t, tk_t, av_t, lo_t, md_t), (ds_s, cs_s, mp_s, pk_s, cap_s, cn_s, sn_s, n_s, tk_s, av_s, lo_s, md_s), (hds, hcs, hmp, hpk, hcap, hcn, hsn, hn, htk, hav, hlo, hmd, hla, hct), wc, wd, sg, ln, pl, ch, nu, wb, capw, wl, wn, isv, lf, kk, kr, kd, kr2, kd2, capE, mc, PP) k9 k8), C, S) ∧ C ≤ 20 ∧ S ≤ 100 := by
    unfold F_L_district
    simp only [FF_X10_district]
    unfold F_X10_district
    generalize hX : F_X10_change_ad3 capE PP mc ds cs mp pk cap cn sn n tk av lo md hds hcs hmp hpk hcap hcn hsn hn htk hav hlo hmd hla hct a v9 = X
    unfold F_X10_change_ad3 at hX
    rw [h, if_neg (show ¬ (1 : Nat) = 0 from by decide)] at hX
    subst hX
    unfold K_L_district_3
    simp only [show ¬ (1 : Nat) = 0 from by decide, if_false, adc]
    exact ⟨_, _, rfl, by decide, by decide⟩
  exact OQ.eq e3 ⟨Eq.refl _, Eq.refl _⟩ hC hS (setK_phs _ _ _).1 (setK_phs _ _ _).2
theorem ref_lose (M : MS) {k9 k8 : Int32} (h : F_X8_against_ad4 (cnS M.1) = (1, k9, k8)) : OQ 20 100 M (F_L_lose M) (fun v N => v = -1001 ∧ N = setK M k9 k8) := by
  obtain ⟨⟨ds, cs, mp, pk, cap, cn, sn, n, tk, av, lo, md⟩, ⟨ds_t, cs_t, mp_t, pk_t, cap_t, cn_t, sn_t, n_t, tk_t, av_t, lo_t, md_t⟩, ⟨ds_s, cs_s, mp_s, pk_s, cap_s, cn_s, sn_s, n_s, tk_s, av_s, lo_s, md_s⟩, ⟨hds, hcs, hmp, hpk, hcap, hcn, hsn, hn, htk, hav, hlo, hmd, hla, hct⟩, wc, wd, sg, ln, pl, ch, nu, wb, capw, wl, wn, isv, lf, kk, kr, kd, kr2, kd2, capE, mc, PP⟩ := M
  replace h : F_X8_against_ad4 cn = (1, k9, k8) := h
  obtain ⟨C, S, e3, hC, hS⟩ : ∃ C S, F_L_lose ((ds, cs, mp, pk, cap, cn, sn, n, tk, av, lo, md), (ds_t, cs_t, mp_t, pk_t, cap_t, cn_t, sn_t, n_t, tk_t, av_t, lo_t, md_t), (ds_s, cs_s, mp_s, pk_s, cap_s, cn_s, sn_s, n_s, tk_s, av_s, lo_s, md_s), (hds, hcs, hmp, hpk, hcap, hcn, hsn, hn, htk, hav, hlo, hmd, hla, hct), wc, wd, sg, ln, pl, ch, nu, wb, capw, wl, wn, isv, lf, kk, kr, kd, kr2, kd2, capE, mc, PP) = (-1001, (setK ((ds, cs, mp, pk, cap, cn, sn, n, tk, av, lo, md), (ds_t, cs_t, mp_t, pk_t, cap_t, cn_t, sn_t, n_t, tk_t, av_t, lo_t, md_t), (ds_s, cs_s, mp_s, pk_s, cap_s, cn_s, sn_s, n_s, tk_s, av_s, lo_s, md_s), (hds, hcs, hmp, hpk, hcap, hcn, hsn, hn, htk, hav, hlo, hmd, hla, hct), wc, wd, sg, ln, pl, ch, nu, wb, capw, wl, wn, isv, lf, kk, kr, kd, kr2, kd2, capE, mc, PP) k9 k8), C, S) ∧ C ≤ 20 ∧ S ≤ 100 := by
    unfold F_L_lose
    simp only [FF_X10_lose]
    unfold F_X10_lose
    generalize hX : F_X10_change_ad4 PP ds cs mp pk cn sn n tk av lo md hds hcs hmp hpk hcap hcn hsn hn htk hav hlo hmd hla hct = X
    unfold F_X10_change_ad4 at hX
    rw [h, if_neg (show ¬ (1 : Nat) = 0 from by decide)] at hX
    subst hX
    unfold K_L_lose_1
    simp only [show ¬ (1 : Nat) = 0 from by decide, if_false, adc]
    exact ⟨_, _, rfl, by decide, by decide⟩
  exact OQ.eq e3 ⟨Eq.refl _, Eq.refl _⟩ hC hS (setK_phs _ _ _).1 (setK_phs _ _ _).2
theorem ref_pass (M : MS) (a : Int32) {k9 k8 : Int32} (h : F_X8_against_ad5 a = (1, k9, k8)) : OQ 20 100 M (F_L_pass M a) (fun v N => v = -1001 ∧ N = setK M k9 k8) := by
  obtain ⟨⟨ds, cs, mp, pk, cap, cn, sn, n, tk, av, lo, md⟩, ⟨ds_t, cs_t, mp_t, pk_t, cap_t, cn_t, sn_t, n_t, tk_t, av_t, lo_t, md_t⟩, ⟨ds_s, cs_s, mp_s, pk_s, cap_s, cn_s, sn_s, n_s, tk_s, av_s, lo_s, md_s⟩, ⟨hds, hcs, hmp, hpk, hcap, hcn, hsn, hn, htk, hav, hlo, hmd, hla, hct⟩, wc, wd, sg, ln, pl, ch, nu, wb, capw, wl, wn, isv, lf, kk, kr, kd, kr2, kd2, capE, mc, PP⟩ := M
  replace h : F_X8_against_ad5 a = (1, k9, k8) := h
  obtain ⟨C, S, e3, hC, hS⟩ : ∃ C S, F_L_pass ((ds, cs, mp, pk, cap, cn, sn, n, tk, av, lo, md), (ds_t, cs_t, mp_t, pk_t, cap_t, cn_t, sn_t, n_t, tk_t, av_t, lo_t, md_t), (ds_s, cs_s, mp_s, pk_s, cap_s, cn_s, sn_s, n_s, tk_s, av_s, lo_s, md_s), (hds, hcs, hmp, hpk, hcap, hcn, hsn, hn, htk, hav, hlo, hmd, hla, hct), wc, wd, sg, ln, pl, ch, nu, wb, capw, wl, wn, isv, lf, kk, kr, kd, kr2, kd2, capE, mc, PP) a = (-1001, (setK ((ds, cs, mp, pk, cap, cn, sn, n, tk, av, lo, md), (ds_t, cs_t, mp_t, pk_t, cap_t, cn_t, sn_t, n_t, tk_t, av_t, lo_t, md_t), (ds_s, cs_s, mp_s, pk_s, cap_s, cn_s, sn_s, n_s, tk_s, av_s, lo_s, md_s), (hds, hcs, hmp, hpk, hcap, hcn, hsn, hn, htk, hav, hlo, hmd, hla, hct), wc, wd, sg, ln, pl, ch, nu, wb, capw, wl, wn, isv, lf, kk, kr, kd, kr2, kd2, capE, mc, PP) k9 k8), C, S) ∧ C ≤ 20 ∧ S ≤ 100 := by
    unfold F_L_pass
    simp only [FF_X10_pass]
    unfold F_X10_pass
    generalize hX : F_X10_change_ad5 capE PP mc ds cs mp pk cap cn sn n tk av lo md hds hcs hmp hpk hcap hcn hsn hn htk hav hlo hmd hla hct a = X
    unfold F_X10_change_ad5 at hX
    rw [h, if_neg (show ¬ (1 : Nat) = 0 from by decide)] at hX
    subst hX
    unfold K_L_pass_2
    simp only [show ¬ (1 : Nat) = 0 from by decide, if_false, adc]
    exact ⟨_, _, rfl, by decide, by decide⟩
  exact OQ.eq e3 ⟨Eq.refl _, Eq.refl _⟩ hC hS (setK_phs _ _ _).1 (setK_phs _ _ _).2
