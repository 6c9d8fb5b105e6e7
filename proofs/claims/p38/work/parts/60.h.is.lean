/-! WHAT IS KEPT OF A REFUSAL -/
theorem rea00 (M : MS) (a b : Int32) : F_L_reason (setK M a b) 0 0 = (a, setK M a b, 1, 6) := by
  obtain ⟨⟨ds, cs, mp, pk, cap, cn, sn, n, tk, av, lo, md⟩, ⟨ds_t, cs_t, mp_t, pk_t, cap_t, cn_t, sn_t, n_t, tk_t, av_t, lo_t, md_t⟩, ⟨ds_s, cs_s, mp_s, pk_s, cap_s, cn_s, sn_s, n_s, tk_s, av_s, lo_s, md_s⟩, ⟨hds, hcs, hmp, hpk, hcap, hcn, hsn, hn, htk, hav, hlo, hmd, hla, hct⟩, wc, wd, sg, ln, pl, ch, nu, wb, capw, wl, wn, isv, lf, kk, kr, kd, kr2, kd2, capE, mc, PP⟩ := M
  rfl
theorem rea01 (M : MS) (a b : Int32) : F_L_reason (setK M a b) 0 1 = (b, setK M a b, 1, 6) := by
  obtain ⟨⟨ds, cs, mp, pk, cap, cn, sn, n, tk, av, lo, md⟩, ⟨ds_t, cs_t, mp_t, pk_t, cap_t, cn_t, sn_t, n_t, tk_t, av_t, lo_t, md_t⟩, ⟨ds_s, cs_s, mp_s, pk_s, cap_s, cn_s, sn_s, n_s, tk_s, av_s, lo_s, md_s⟩, ⟨hds, hcs, hmp, hpk, hcap, hcn, hsn, hn, htk, hav, hlo, hmd, hla, hct⟩, wc, wd, sg, ln, pl, ch, nu, wb, capw, wl, wn, isv, lf, kk, kr, kd, kr2, kd2, capE, mc, PP⟩ := M
  rfl
theorem rea10 (M : MS) (a b : Int32) : F_L_reason (setK M a b) 1 0 = (-1001, setK M a b, 1, 6) := by
  obtain ⟨⟨ds, cs, mp, pk, cap, cn, sn, n, tk, av, lo, md⟩, ⟨ds_t, cs_t, mp_t, pk_t, cap_t, cn_t, sn_t, n_t, tk_t, av_t, lo_t, md_t⟩, ⟨ds_s, cs_s, mp_s, pk_s, cap_s, cn_s, sn_s, n_s, tk_s, av_s, lo_s, md_s⟩, ⟨hds, hcs, hmp, hpk, hcap, hcn, hsn, hn, htk, hav, hlo, hmd, hla, hct⟩, wc, wd, sg, ln, pl, ch, nu, wb, capw, wl, wn, isv, lf, kk, kr, kd, kr2, kd2, capE, mc, PP⟩ := M
  rfl
theorem rea11 (M : MS) (a b : Int32) : F_L_reason (setK M a b) 1 1 = (-1001, setK M a b, 1, 6) := by
  obtain ⟨⟨ds, cs, mp, pk, cap, cn, sn, n, tk, av, lo, md⟩, ⟨ds_t, cs_t, mp_t, pk_t, cap_t, cn_t, sn_t, n_t, tk_t, av_t, lo_t, md_t⟩, ⟨ds_s, cs_s, mp_s, pk_s, cap_s, cn_s, sn_s, n_s, tk_s, av_s, lo_s, md_s⟩, ⟨hds, hcs, hmp, hpk, hcap, hcn, hsn, hn, htk, hav, hlo, hmd, hla, hct⟩, wc, wd, sg, ln, pl, ch, nu, wb, capw, wl, wn, isv, lf, kk, kr, kd, kr2, kd2, capE, mc, PP⟩ := M
  rfl
theorem is_eq (M : MS) (a b : Int32) : F_L_is (setK M a b) a b = (1, setK M a b, 4, 24) := by
  unfold F_L_is
  rw [rea00]
  show adc 1 6 (if a = a then K_L_is_13 b (F_L_reason (setK M a b) 0 1) else (0, setK M a b, 0, 0)) = _
  rw [if_pos rfl, rea01]
  show adc 1 6 (adc 1 6 (if b = b then K_L_is_23 (F_L_reason (setK M a b) 1 0) else (0, setK M a b, 0, 0))) = _
  rw [if_pos rfl, rea10]
  show adc 1 6 (adc 1 6 (adc 1 6 (if (-1001 : Int32) = -1001 then K_L_is_35 (F_L_reason (setK M a b) 1 1) else (0, setK M a b, 0, 0)))) = _
  rw [if_pos rfl, rea11]
  show adc 1 6 (adc 1 6 (adc 1 6 (adc 1 6 (if (-1001 : Int32) = -1001 then ((1 : Int32), setK M a b, 0, 0) else (0, setK M a b, 0, 0))))) = _
  rw [if_pos rfl]
  generalize setK M a b = N
  rfl
theorem oq_is (M : MS) (a b : Int32) : OQ 4 24 (setK M a b) (F_L_is (setK M a b) a b) (fun v N => v = 1 ∧ N = setK M a b) := OQ.eq (is_eq M a b) ⟨rfl, rfl⟩ (Nat.le_refl _) (Nat.le_refl _) (Eq.refl _) (Eq.refl _)
theorem range_eq (M : MS) : F_L_isRange (setK M 1 0) (-1001) = (1, setK M 1 0, 4, 24) := by
  unfold F_L_isRange
  rw [if_pos rfl, is_eq]
  generalize setK M 1 0 = N
  rfl
theorem oq_range (M : MS) : OQ 4 24 (setK M 1 0) (F_L_isRange (setK M 1 0) (-1001)) (fun v N => v = 1 ∧ N = setK M 1 0) := OQ.eq (range_eq M) ⟨rfl, rfl⟩ (Nat.le_refl _) (Nat.le_refl _) (Eq.refl _) (Eq.refl _)
/-- a refusal with a cause -/
def setK2 : MS → Int32 → Int32 → Int32 → Int32 → MS
  | ((ds, cs, mp, pk, cap, cn, sn, n, tk, av, lo, md), (ds_t, cs_t, mp_t, pk_t, cap_t, cn_t, sn_t, n_t, tk_t, av_t, lo_t, md_t), (ds_s, cs_s, mp_s, pk_s, cap_s, cn_s, sn_s, n_s, tk_s, av_s, lo_s, md_s), (hds, hcs, hmp, hpk, hcap, hcn, hsn, hn, htk, hav, hlo, hmd, hla, hct), wc, wd, sg, ln, pl, ch, nu, wb, capw, wl, wn, isv, lf, kk, kr, kd, kr2, kd2, capE, mc, PP), r, d, r2, d2 => ((ds, cs, mp, pk, cap, cn, sn, n, tk, av, lo, md), (ds_t, cs_t, mp_t, pk_t, cap_t, cn_t, sn_t, n_t, tk_t, av_t, lo_t, md_t), (ds_s, cs_s, mp_s, pk_s, cap_s, cn_s, sn_s, n_s, tk_s, av_s, lo_s, md_s), (hds, hcs, hmp, hpk, hcap, hcn, hsn, hn, htk, hav, hlo, hmd, hla, hct), wc, wd, sg, ln, pl, ch, nu, wb, capw, wl, wn, isv, lf, 2, r, d, r2, d2, capE, mc, PP)
theorem OKS.setK2 {R r d T Bd : Nat} {stk : List SV} {sv : Option SV} {M : MS} (h : OKS R r d T Bd stk sv M) (a b c e : Int32) : OKS R r d T Bd stk sv (setK2 M a b c e) := by
  obtain ⟨⟨ds, cs, mp, pk, cap, cn, sn, n, tk, av, lo, md⟩, ⟨ds_t, cs_t, mp_t, pk_t, cap_t, cn_t, sn_t, n_t, tk_t, av_t, lo_t, md_t⟩, ⟨ds_s, cs_s, mp_s, pk_s, cap_s, cn_s, sn_s, n_s, tk_s, av_s, lo_s, md_s⟩, ⟨hds, hcs, hmp, hpk, hcap, hcn, hsn, hn, htk, hav, hlo, hmd, hla, hct⟩, wc, wd, sg, ln, pl, ch, nu, wb, capw, wl, wn, isv, lf, kk, kr, kd, kr2, kd2, capE, mc, PP⟩ := M
  obtain ⟨h1, h2, h3, h4, h5, h6, h7, h8, h9, h10, h11⟩ := h
  exact ⟨h1, h2, h3, h4, h5, h6, h7, h8, h9, h10, h11⟩
theorem rfa00 (M : MS) (a b c d : Int32) : F_L_reason (setK2 M a b c d) 0 0 = (a, setK2 M a b c d, 1, 6) := by
  obtain ⟨⟨ds, cs, mp, pk, cap, cn, sn, n, tk, av, lo, md⟩, ⟨ds_t, cs_t, mp_t, pk_t, cap_t, cn_t, sn_t, n_t, tk_t, av_t, lo_t, md_t⟩, ⟨ds_s, cs_s, mp_s, pk_s, cap_s, cn_s, sn_s, n_s, tk_s, av_s, lo_s, md_s⟩, ⟨hds, hcs, hmp, hpk, hcap, hcn, hsn, hn, htk, hav, hlo, hmd, hla, hct⟩, wc, wd, sg, ln, pl, ch, nu, wb, capw, wl, wn, isv, lf, kk, kr, kd, kr2, kd2, capE, mc, PP⟩ := M
  rfl
theorem rfa01 (M : MS) (a b c d : Int32) : F_L_reason (setK2 M a b c d) 0 1 = (b, setK2 M a b c d, 1, 6) := by
  obtain ⟨⟨ds, cs, mp, pk, cap, cn, sn, n, tk, av, lo, md⟩, ⟨ds_t, cs_t, mp_t, pk_t, cap_t, cn_t, sn_t, n_t, tk_t, av_t, lo_t, md_t⟩, ⟨ds_s, cs_s, mp_s, pk_s, cap_s, cn_s, sn_s, n_s, tk_s, av_s, lo_s, md_s⟩, ⟨hds, hcs, hmp, hpk, hcap, hcn, hsn, hn, htk, hav, hlo, hmd, hla, hct⟩, wc, wd, sg, ln, pl, ch, nu, wb, capw, wl, wn, isv, lf, kk, kr, kd, kr2, kd2, capE, mc, PP⟩ := M
  rfl
theorem rfa10 (M : MS) (a b c d : Int32) : F_L_reason (setK2 M a b c d) 1 0 = (c, setK2 M a b c d, 1, 6) := by
  obtain ⟨⟨ds, cs, mp, pk, cap, cn, sn, n, tk, av, lo, md⟩, ⟨ds_t, cs_t, mp_t, pk_t, cap_t, cn_t, sn_t, n_t, tk_t, av_t, lo_t, md_t⟩, ⟨ds_s, cs_s, mp_s, pk_s, cap_s, cn_s, sn_s, n_s, tk_s, av_s, lo_s, md_s⟩, ⟨hds, hcs, hmp, hpk, hcap, hcn, hsn, hn, htk, hav, hlo, hmd, hla, hct⟩, wc, wd, sg, ln, pl, ch, nu, wb, capw, wl, wn, isv, lf, kk, kr, kd, kr2, kd2, capE, mc, PP⟩ := M
  rfl
theorem rfa11 (M : MS) (a b c d : Int32) : F_L_reason (setK2 M a b c d) 1 1 = (d, setK2 M a b c d, 1, 6) := by
  obtain ⟨⟨ds, cs, mp, pk, cap, cn, sn, n, tk, av, lo, md⟩, ⟨ds_t, cs_t, mp_t, pk_t, cap_t, cn_t, sn_t, n_t, tk_t, av_t, lo_t, md_t⟩, ⟨ds_s, cs_s, mp_s, pk_s, cap_s, cn_s, sn_s, n_s, tk_s, av_s, lo_s, md_s⟩, ⟨hds, hcs, hmp, hpk, hcap, hcn, hsn, hn, htk, hav, hlo, hmd, hla, hct⟩, wc, wd, sg, ln, pl, ch, nu, wb, capw, wl, wn, isv, lf, kk, kr, kd, kr2, kd2, capE, mc, PP⟩ := M
  rfl
theorem eight_eq (M : MS) (b c d : Int32) : F_L_isEight (setK2 M 8 b c d) b c d = (1, setK2 M 8 b c d, 4, 24) := by
  unfold F_L_isEight
  rw [rfa00]
  show adc 1 6 (if (8 : Int32) = 8 then K_L_isEight_14 b c d (F_L_reason (setK2 M 8 b c d) 0 1) else (0, setK2 M 8 b c d, 0, 0)) = _
  rw [if_pos rfl, rfa01]
  show adc 1 6 (adc 1 6 (if b = b then K_L_isEight_24 c d (F_L_reason (setK2 M 8 b c d) 1 0) else (0, setK2 M 8 b c d, 0, 0))) = _
  rw [if_pos rfl, rfa10]
  show adc 1 6 (adc 1 6 (adc 1 6 (if c = c then K_L_isEight_34 d (F_L_reason (setK2 M 8 b c d) 1 1) else (0, setK2 M 8 b c d, 0, 0)))) = _
  rw [if_pos rfl, rfa11]
  show adc 1 6 (adc 1 6 (adc 1 6 (adc 1 6 (if d = d then ((1 : Int32), setK2 M 8 b c d, 0, 0) else (0, setK2 M 8 b c d, 0, 0))))) = _
  rw [if_pos rfl]
  generalize setK2 M 8 b c d = N
  rfl
theorem oq_eight (M : MS) (b c d : Int32) : OQ 4 24 (setK2 M 8 b c d) (F_L_isEight (setK2 M 8 b c d) b c d) (fun v N => v = 1 ∧ N = setK2 M 8 b c d) := OQ.eq (eight_eq M b c d) ⟨rfl, rfl⟩ (Nat.le_refl _) (Nat.le_refl _) (Eq.refl _) (Eq.refl _)
