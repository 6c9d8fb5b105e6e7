/-! EVERY QUERY, IN TWO STATES -/
theorem XL_len {Bd : Nat} {M : MS} (h : XL Bd M) : (arch M).length ≤ Bd := by
  obtain ⟨⟨ds, cs, mp, pk, cap, cn, sn, n, tk, av, lo, md⟩, ⟨ds_t, cs_t, mp_t, pk_t, cap_t, cn_t, sn_t, n_t, tk_t, av_t, lo_t, md_t⟩, ⟨ds_s, cs_s, mp_s, pk_s, cap_s, cn_s, sn_s, n_s, tk_s, av_s, lo_s, md_s⟩, ⟨hds, hcs, hmp, hpk, hcap, hcn, hsn, hn, htk, hav, hlo, hmd, hla, hct⟩, wc, wd, sg, ln, pl, ch, nu, wb, capw, wl, wn, isv, lf, kk, kr, kd, kr2, kd2, capE, mc, PP⟩ := M
  exact h.1
theorem OBM {K1 K2 : CR} {P0 : List PG} {Bd : Nat} {M1 M2 : MS} (h : PR K1 K2 P0 Bd M1 M2) : OB (arch M1) (arch M2) M1.1.2.2.1 M1.1.2.2.2.1 M2.1.2.2.2.1 M1.1.2.2.2.2.2.1 := by
  obtain ⟨⟨rfl, ⟨Q1, e1⟩, z1, z2, x1, b1⟩, ⟨rfl, ⟨Q2, e2⟩, z3, z4, x2, b2⟩, ⟨q1, q2, q3, q4, q5, q6⟩, M, lt, N, hS, _⟩ := h
  have l1 := XL_len x1
  have l2 := XL_len x2
  rw [e1] at l1 ⊢
  rw [e2] at l2 ⊢
  exact OB_of hS q4 (by omega) (by omega)
theorem EQM {K1 K2 : CR} {P0 : List PG} {Bd : Nat} {M1 M2 : MS} (h : PR K1 K2 P0 Bd M1 M2) : EQN M1.1 M2.1 := by
  obtain ⟨⟨rfl, ⟨Q1, e1⟩, z1, z2, x1, b1⟩, ⟨rfl, ⟨Q2, e2⟩, z3, z4, x2, b2⟩, q, _⟩ := h
  exact q
theorem rq_pure {α : Type} {K1 K2 : CR} {P0 : List PG} {Bd : Nat} {M1 M2 : MS} (h : PR K1 K2 P0 Bd M1 M2) (c s : Nat) (v : α) : RQ K1 K2 P0 Bd c s M1 M2 (adc c s (v, M1, 0, 0)) (adc c s (v, M2, 0, 0)) :=
  ⟨rfl, h, ⟨by show s + 0 + PHI M1 ≤ s + PHI M1; omega, by show 320 * (c + 0) + PHC M1 ≤ 320 * c + PHC M1; omega⟩, ⟨by show s + 0 + PHI M2 ≤ s + PHI M2; omega, by show 320 * (c + 0) + PHC M2 ≤ 320 * c + PHC M2; omega⟩⟩
theorem rq_mv {α : Type} {K1 K2 : CR} {P0 : List PG} {Bd : Nat} {M1 M2 N1 N2 : MS} (h : PR K1 K2 P0 Bd N1 N2) (p1 : PHI N1 = PHI M1) (p2 : PHI N2 = PHI M2) (p3 : PHC N1 = PHC M1) (p4 : PHC N2 = PHC M2) (c s : Nat) (v : α) : RQ K1 K2 P0 Bd c s M1 M2 (adc c s (v, N1, 0, 0)) (adc c s (v, N2, 0, 0)) :=
  ⟨rfl, h, ⟨by show s + 0 + PHI M1 ≤ s + PHI N1; omega, by show 320 * (c + 0) + PHC M1 ≤ 320 * c + PHC N1; omega⟩, ⟨by show s + 0 + PHI M2 ≤ s + PHI N2; omega, by show 320 * (c + 0) + PHC M2 ≤ 320 * c + PHC N2; omega⟩⟩
def VW_surveyorOf (st : Nat) (v : Int32) : Int32 := (if st = 0 then v else (if st = 2 then (-1001) else (-1002)))
theorem kl_surveyorOf (M : MS) (y3 : Nat × Int32) : K_L_surveyorOf_3 M y3 = adc 2 12 (VW_surveyorOf y3.1 y3.2, M, 0, 0) := by
  unfold K_L_surveyorOf_3 VW_surveyorOf
  by_cases c0 : y3.1 = 0 <;> by_cases c1 : y3.1 = 2 <;> first | (simp only [c0, c1, if_true, if_false]; done) | (simp [c0, c1]; done)
theorem ff_surveyorOf {K1 K2 : CR} {P0 : List PG} {Bd : Nat} {M1 M2 : MS} (h : PR K1 K2 P0 Bd M1 M2) (a1 a2 : Int32) : FF_X10_surveyorOf M1 a1 a2 = FF_X10_surveyorOf M2 a1 a2 := by
  have hO := OBM h
  obtain ⟨q1, q2, q3, q4, q5, q6⟩ := EQM h
  obtain ⟨⟨ds1, cs1, mp1, pk1, cap1, cn1, sn1, n1, tk1, av1, lo1, md1⟩, ⟨ds_t1, cs_t1, mp_t1, pk_t1, cap_t1, cn_t1, sn_t1, n_t1, tk_t1, av_t1, lo_t1, md_t1⟩, ⟨ds_s1, cs_s1, mp_s1, pk_s1, cap_s1, cn_s1, sn_s1, n_s1, tk_s1, av_s1, lo_s1, md_s1⟩, ⟨hds1, hcs1, hmp1, hpk1, hcap1, hcn1, hsn1, hn1, htk1, hav1, hlo1, hmd1, hla1, hct1⟩, wc1, wd1, sg1, ln1, pl1, ch1, nu1, wb1, capw1, wl1, wn1, isv1, lf1, kk1, kr1, kd1, kr21, kd21, capE1, mc1, PP1⟩ := M1
  obtain ⟨⟨ds2, cs2, mp2, pk2, cap2, cn2, sn2, n2, tk2, av2, lo2, md2⟩, ⟨ds_t2, cs_t2, mp_t2, pk_t2, cap_t2, cn_t2, sn_t2, n_t2, tk_t2, av_t2, lo_t2, md_t2⟩, ⟨ds_s2, cs_s2, mp_s2, pk_s2, cap_s2, cn_s2, sn_s2, n_s2, tk_s2, av_s2, lo_s2, md_s2⟩, ⟨hds2, hcs2, hmp2, hpk2, hcap2, hcn2, hsn2, hn2, htk2, hav2, hlo2, hmd2, hla2, hct2⟩, wc2, wd2, sg2, ln2, pl2, ch2, nu2, wb2, capw2, wl2, wn2, isv2, lf2, kk2, kr2, kd2, kr22, kd22, capE2, mc2, PP2⟩ := M2
  have r1 : ds1 = ds2 := q1
  have r2 : cs1 = cs2 := q2
  have r3 : mp1 = mp2 := q3
  have r5 : cn1 = cn2 := q5
  have r6 : (sn1, n1, tk1, av1, lo1, md1) = (sn2, n2, tk2, av2, lo2, md2) := q6
  clear q1 q2 q3 q4 q5 q6 h
  simp only [Prod.mk.injEq] at r6
  obtain ⟨r6, r7, r8, r9, r10, r11⟩ := r6
  subst r1 r2 r3 r5 r6 r7 r8 r9 r10 r11
  replace hO : OB PP1 PP2 mp1 pk1 pk2 cn1 := hO
  simp only [FF_X10_surveyorOf]
  rw [cg_F_X10_surveyorOf hO]
theorem qa_surveyorOf {K1 K2 : CR} {P0 : List PG} {Bd : Nat} {M1 M2 : MS} (h : PR K1 K2 P0 Bd M1 M2) (a1 a2 : Int32) : RQ K1 K2 P0 Bd 2 12 M1 M2 (F_L_surveyorOf M1 a1 a2) (F_L_surveyorOf M2 a1 a2) := by
  unfold F_L_surveyorOf
  rw [ff_surveyorOf h, kl_surveyorOf, kl_surveyorOf]
  exact rq_pure h 2 12 _
def VW_cost (st : Nat) (v : Int32) : Int32 := (if st = 0 then v else (if st = 2 then (-1001) else (-1002)))
theorem kl_cost (M : MS) (y3 : Nat × Int32) : K_L_cost_3 M y3 = adc 3 18 (VW_cost y3.1 y3.2, M, 0, 0) := by
  unfold K_L_cost_3 VW_cost
  by_cases c0 : y3.1 = 0 <;> by_cases c1 : y3.1 = 2 <;> first | (simp only [c0, c1, if_true, if_false]; done) | (simp [c0, c1]; done)
theorem ff_cost {K1 K2 : CR} {P0 : List PG} {Bd : Nat} {M1 M2 : MS} (h : PR K1 K2 P0 Bd M1 M2) (a1 a2 : Int32) : FF_X10_cost M1 a1 a2 = FF_X10_cost M2 a1 a2 := by
  have hO := OBM h
  obtain ⟨q1, q2, q3, q4, q5, q6⟩ := EQM h
  obtain ⟨⟨ds1, cs1, mp1, pk1, cap1, cn1, sn1, n1, tk1, av1, lo1, md1⟩, ⟨ds_t1, cs_t1, mp_t1, pk_t1, cap_t1, cn_t1, sn_t1, n_t1, tk_t1, av_t1, lo_t1, md_t1⟩, ⟨ds_s1, cs_s1, mp_s1, pk_s1, cap_s1, cn_s1, sn_s1, n_s1, tk_s1, av_s1, lo_s1, md_s1⟩, ⟨hds1, hcs1, hmp1, hpk1, hcap1, hcn1, hsn1, hn1, htk1, hav1, hlo1, hmd1, hla1, hct1⟩, wc1, wd1, sg1, ln1, pl1, ch1, nu1, wb1, capw1, wl1, wn1, isv1, lf1, kk1, kr1, kd1, kr21, kd21, capE1, mc1, PP1⟩ := M1
  obtain ⟨⟨ds2, cs2, mp2, pk2, cap2, cn2, sn2, n2, tk2, av2, lo2, md2⟩, ⟨ds_t2, cs_t2, mp_t2, pk_t2, cap_t2, cn_t2, sn_t2, n_t2, tk_t2, av_t2, lo_t2, md_t2⟩, ⟨ds_s2, cs_s2, mp_s2, pk_s2, cap_s2, cn_s2, sn_s2, n_s2, tk_s2, av_s2, lo_s2, md_s2⟩, ⟨hds2, hcs2, hmp2, hpk2, hcap2, hcn2, hsn2, hn2, htk2, hav2, hlo2, hmd2, hla2, hct2⟩, wc2, wd2, sg2, ln2, pl2, ch2, nu2, wb2, capw2, wl2, wn2, isv2, lf2, kk2, kr2, kd2, kr22, kd22, capE2, mc2, PP2⟩ := M2
  have r1 : ds1 = ds2 := q1
  have r2 : cs1 = cs2 := q2
  have r3 : mp1 = mp2 := q3
  have r5 : cn1 = cn2 := q5
  have r6 : (sn1, n1, tk1, av1, lo1, md1) = (sn2, n2, tk2, av2, lo2, md2) := q6
  clear q1 q2 q3 q4 q5 q6 h
  simp only [Prod.mk.injEq] at r6
  obtain ⟨r6, r7, r8, r9, r10, r11⟩ := r6
  subst r1 r2 r3 r5 r6 r7 r8 r9 r10 r11
  replace hO : OB PP1 PP2 mp1 pk1 pk2 cn1 := hO
  simp only [FF_X10_cost]
theorem qa_cost {K1 K2 : CR} {P0 : List PG} {Bd : Nat} {M1 M2 : MS} (h : PR K1 K2 P0 Bd M1 M2) (a1 a2 : Int32) : RQ K1 K2 P0 Bd 3 18 M1 M2 (F_L_cost M1 a1 a2) (F_L_cost M2 a1 a2) := by
  unfold F_L_cost
  rw [ff_cost h, kl_cost, kl_cost]
  exact rq_pure h 3 18 _
def VW_page (st : Nat) (v : Int32) : Int32 := (if st = 0 then v else (if st = 2 then (-1001) else (if st = 3 then (-1002) else (-1003))))
theorem kl_page (M : MS) (y4 : Nat × Int32) : K_L_page_4 M y4 = adc 3 18 (VW_page y4.1 y4.2, M, 0, 0) := by
  unfold K_L_page_4 VW_page
  by_cases c0 : y4.1 = 0 <;> by_cases c1 : y4.1 = 2 <;> by_cases c2 : y4.1 = 3 <;> first | (simp only [c0, c1, c2, if_true, if_false]; done) | (simp [c0, c1, c2]; done)
theorem ff_page {K1 K2 : CR} {P0 : List PG} {Bd : Nat} {M1 M2 : MS} (h : PR K1 K2 P0 Bd M1 M2) (a1 a2 a3 : Int32) : FF_X10_page M1 a1 a2 a3 = FF_X10_page M2 a1 a2 a3 := by
  have hO := OBM h
  obtain ⟨q1, q2, q3, q4, q5, q6⟩ := EQM h
  obtain ⟨⟨ds1, cs1, mp1, pk1, cap1, cn1, sn1, n1, tk1, av1, lo1, md1⟩, ⟨ds_t1, cs_t1, mp_t1, pk_t1, cap_t1, cn_t1, sn_t1, n_t1, tk_t1, av_t1, lo_t1, md_t1⟩, ⟨ds_s1, cs_s1, mp_s1, pk_s1, cap_s1, cn_s1, sn_s1, n_s1, tk_s1, av_s1, lo_s1, md_s1⟩, ⟨hds1, hcs1, hmp1, hpk1, hcap1, hcn1, hsn1, hn1, htk1, hav1, hlo1, hmd1, hla1, hct1⟩, wc1, wd1, sg1, ln1, pl1, ch1, nu1, wb1, capw1, wl1, wn1, isv1, lf1, kk1, kr1, kd1, kr21, kd21, capE1, mc1, PP1⟩ := M1
  obtain ⟨⟨ds2, cs2, mp2, pk2, cap2, cn2, sn2, n2, tk2, av2, lo2, md2⟩, ⟨ds_t2, cs_t2, mp_t2, pk_t2, cap_t2, cn_t2, sn_t2, n_t2, tk_t2, av_t2, lo_t2, md_t2⟩, ⟨ds_s2, cs_s2, mp_s2, pk_s2, cap_s2, cn_s2, sn_s2, n_s2, tk_s2, av_s2, lo_s2, md_s2⟩, ⟨hds2, hcs2, hmp2, hpk2, hcap2, hcn2, hsn2, hn2, htk2, hav2, hlo2, hmd2, hla2, hct2⟩, wc2, wd2, sg2, ln2, pl2, ch2, nu2, wb2, capw2, wl2, wn2, isv2, lf2, kk2, kr2, kd2, kr22, kd22, capE2, mc2, PP2⟩ := M2
  have r1 : ds1 = ds2 := q1
  have r2 : cs1 = cs2 := q2
  have r3 : mp1 = mp2 := q3
  have r5 : cn1 = cn2 := q5
  have r6 : (sn1, n1, tk1, av1, lo1, md1) = (sn2, n2, tk2, av2, lo2, md2) := q6
  clear q1 q2 q3 q4 q5 q6 h
  simp only [Prod.mk.injEq] at r6
  obtain ⟨r6, r7, r8, r9, r10, r11⟩ := r6
  subst r1 r2 r3 r5 r6 r7 r8 r9 r10 r11
  replace hO : OB PP1 PP2 mp1 pk1 pk2 cn1 := hO
  simp only [FF_X10_page]
  rw [cg_F_X10_page hO]
theorem qa_page {K1 K2 : CR} {P0 : List PG} {Bd : Nat} {M1 M2 : MS} (h : PR K1 K2 P0 Bd M1 M2) (a1 a2 a3 : Int32) : RQ K1 K2 P0 Bd 3 18 M1 M2 (F_L_page M1 a1 a2 a3) (F_L_page M2 a1 a2 a3) := by
  unfold F_L_page
  rw [ff_page h, kl_page, kl_page]
  exact rq_pure h 3 18 _
def VW_told (st : Nat) (v : Int32) : Int32 := (if st = 0 then v else (if st = 2 then (-1001) else (-1002)))
theorem kl_told (M : MS) (y4 : Nat × Int32) : K_L_told_4 M y4 = adc 4 24 (VW_told y4.1 y4.2, M, 0, 0) := by
  unfold K_L_told_4 VW_told
  by_cases c0 : y4.1 = 0 <;> by_cases c1 : y4.1 = 2 <;> first | (simp only [c0, c1, if_true, if_false]; done) | (simp [c0, c1]; done)
theorem ff_told {K1 K2 : CR} {P0 : List PG} {Bd : Nat} {M1 M2 : MS} (h : PR K1 K2 P0 Bd M1 M2) (a1 a2 a3 : Int32) : FF_X10_told M1 a1 a2 a3 = FF_X10_told M2 a1 a2 a3 := by
  have hO := OBM h
  obtain ⟨q1, q2, q3, q4, q5, q6⟩ := EQM h
  obtain ⟨⟨ds1, cs1, mp1, pk1, cap1, cn1, sn1, n1, tk1, av1, lo1, md1⟩, ⟨ds_t1, cs_t1, mp_t1, pk_t1, cap_t1, cn_t1, sn_t1, n_t1, tk_t1, av_t1, lo_t1, md_t1⟩, ⟨ds_s1, cs_s1, mp_s1, pk_s1, cap_s1, cn_s1, sn_s1, n_s1, tk_s1, av_s1, lo_s1, md_s1⟩, ⟨hds1, hcs1, hmp1, hpk1, hcap1, hcn1, hsn1, hn1, htk1, hav1, hlo1, hmd1, hla1, hct1⟩, wc1, wd1, sg1, ln1, pl1, ch1, nu1, wb1, capw1, wl1, wn1, isv1, lf1, kk1, kr1, kd1, kr21, kd21, capE1, mc1, PP1⟩ := M1
  obtain ⟨⟨ds2, cs2, mp2, pk2, cap2, cn2, sn2, n2, tk2, av2, lo2, md2⟩, ⟨ds_t2, cs_t2, mp_t2, pk_t2, cap_t2, cn_t2, sn_t2, n_t2, tk_t2, av_t2, lo_t2, md_t2⟩, ⟨ds_s2, cs_s2, mp_s2, pk_s2, cap_s2, cn_s2, sn_s2, n_s2, tk_s2, av_s2, lo_s2, md_s2⟩, ⟨hds2, hcs2, hmp2, hpk2, hcap2, hcn2, hsn2, hn2, htk2, hav2, hlo2, hmd2, hla2, hct2⟩, wc2, wd2, sg2, ln2, pl2, ch2, nu2, wb2, capw2, wl2, wn2, isv2, lf2, kk2, kr2, kd2, kr22, kd22, capE2, mc2, PP2⟩ := M2
  have r1 : ds1 = ds2 := q1
  have r2 : cs1 = cs2 := q2
  have r3 : mp1 = mp2 := q3
  have r5 : cn1 = cn2 := q5
  have r6 : (sn1, n1, tk1, av1, lo1, md1) = (sn2, n2, tk2, av2, lo2, md2) := q6
  clear q1 q2 q3 q4 q5 q6 h
  simp only [Prod.mk.injEq] at r6
  obtain ⟨r6, r7, r8, r9, r10, r11⟩ := r6
  subst r1 r2 r3 r5 r6 r7 r8 r9 r10 r11
  replace hO : OB PP1 PP2 mp1 pk1 pk2 cn1 := hO
  simp only [FF_X10_told]
  rw [cg_F_X10_told hO]
theorem qa_told {K1 K2 : CR} {P0 : List PG} {Bd : Nat} {M1 M2 : MS} (h : PR K1 K2 P0 Bd M1 M2) (a1 a2 a3 : Int32) : RQ K1 K2 P0 Bd 4 24 M1 M2 (F_L_told M1 a1 a2 a3) (F_L_told M2 a1 a2 a3) := by
  unfold F_L_told
  rw [ff_told h, kl_told, kl_told]
  exact rq_pure h 4 24 _
def VW_letter (st : Nat) (v : Int32) : Int32 := (if st = 0 then v else (if st = 3 then (-1001) else (-1002)))
theorem kl_letter (M : MS) (y3 : Nat × Int32) : K_L_letter_3 M y3 = adc 1 6 (VW_letter y3.1 y3.2, M, 0, 0) := by
  unfold K_L_letter_3 VW_letter
  by_cases c0 : y3.1 = 0 <;> by_cases c1 : y3.1 = 3 <;> first | (simp only [c0, c1, if_true, if_false]; done) | (simp [c0, c1]; done)
theorem ff_letter {K1 K2 : CR} {P0 : List PG} {Bd : Nat} {M1 M2 : MS} (h : PR K1 K2 P0 Bd M1 M2) (a1 a2 : Int32) : FF_X10_letter M1 a1 a2 = FF_X10_letter M2 a1 a2 := by
  have hO := OBM h
  obtain ⟨q1, q2, q3, q4, q5, q6⟩ := EQM h
  obtain ⟨⟨ds1, cs1, mp1, pk1, cap1, cn1, sn1, n1, tk1, av1, lo1, md1⟩, ⟨ds_t1, cs_t1, mp_t1, pk_t1, cap_t1, cn_t1, sn_t1, n_t1, tk_t1, av_t1, lo_t1, md_t1⟩, ⟨ds_s1, cs_s1, mp_s1, pk_s1, cap_s1, cn_s1, sn_s1, n_s1, tk_s1, av_s1, lo_s1, md_s1⟩, ⟨hds1, hcs1, hmp1, hpk1, hcap1, hcn1, hsn1, hn1, htk1, hav1, hlo1, hmd1, hla1, hct1⟩, wc1, wd1, sg1, ln1, pl1, ch1, nu1, wb1, capw1, wl1, wn1, isv1, lf1, kk1, kr1, kd1, kr21, kd21, capE1, mc1, PP1⟩ := M1
  obtain ⟨⟨ds2, cs2, mp2, pk2, cap2, cn2, sn2, n2, tk2, av2, lo2, md2⟩, ⟨ds_t2, cs_t2, mp_t2, pk_t2, cap_t2, cn_t2, sn_t2, n_t2, tk_t2, av_t2, lo_t2, md_t2⟩, ⟨ds_s2, cs_s2, mp_s2, pk_s2, cap_s2, cn_s2, sn_s2, n_s2, tk_s2, av_s2, lo_s2, md_s2⟩, ⟨hds2, hcs2, hmp2, hpk2, hcap2, hcn2, hsn2, hn2, htk2, hav2, hlo2, hmd2, hla2, hct2⟩, wc2, wd2, sg2, ln2, pl2, ch2, nu2, wb2, capw2, wl2, wn2, isv2, lf2, kk2, kr2, kd2, kr22, kd22, capE2, mc2, PP2⟩ := M2
  have r1 : ds1 = ds2 := q1
  have r2 : cs1 = cs2 := q2
  have r3 : mp1 = mp2 := q3
  have r5 : cn1 = cn2 := q5
  have r6 : (sn1, n1, tk1, av1, lo1, md1) = (sn2, n2, tk2, av2, lo2, md2) := q6
  clear q1 q2 q3 q4 q5 q6 h
  simp only [Prod.mk.injEq] at r6
  obtain ⟨r6, r7, r8, r9, r10, r11⟩ := r6
  subst r1 r2 r3 r5 r6 r7 r8 r9 r10 r11
  replace hO : OB PP1 PP2 mp1 pk1 pk2 cn1 := hO
  simp only [FF_X10_letter]
  rw [cg_F_X10_letter hO]
theorem qa_letter {K1 K2 : CR} {P0 : List PG} {Bd : Nat} {M1 M2 : MS} (h : PR K1 K2 P0 Bd M1 M2) (a1 a2 : Int32) : RQ K1 K2 P0 Bd 1 6 M1 M2 (F_L_letter M1 a1 a2) (F_L_letter M2 a1 a2) := by
  unfold F_L_letter
  rw [ff_letter h, kl_letter, kl_letter]
  exact rq_pure h 1 6 _
def VW_members (st : Nat) (v : Int32) : Int32 := (if st = 0 then v else (-1001))
theorem kl_members (M : MS) (y2 : Nat × Int32) : K_L_members_2 M y2 = adc 1 6 (VW_members y2.1 y2.2, M, 0, 0) := by
  unfold K_L_members_2 VW_members
  by_cases c0 : y2.1 = 0 <;> first | (simp only [c0, if_true, if_false]; done) | (simp [c0]; done)
theorem ff_members {K1 K2 : CR} {P0 : List PG} {Bd : Nat} {M1 M2 : MS} (h : PR K1 K2 P0 Bd M1 M2) (a1 : Int32) : FF_X10_members M1 a1 = FF_X10_members M2 a1 := by
  have hO := OBM h
  obtain ⟨q1, q2, q3, q4, q5, q6⟩ := EQM h
  obtain ⟨⟨ds1, cs1, mp1, pk1, cap1, cn1, sn1, n1, tk1, av1, lo1, md1⟩, ⟨ds_t1, cs_t1, mp_t1, pk_t1, cap_t1, cn_t1, sn_t1, n_t1, tk_t1, av_t1, lo_t1, md_t1⟩, ⟨ds_s1, cs_s1, mp_s1, pk_s1, cap_s1, cn_s1, sn_s1, n_s1, tk_s1, av_s1, lo_s1, md_s1⟩, ⟨hds1, hcs1, hmp1, hpk1, hcap1, hcn1, hsn1, hn1, htk1, hav1, hlo1, hmd1, hla1, hct1⟩, wc1, wd1, sg1, ln1, pl1, ch1, nu1, wb1, capw1, wl1, wn1, isv1, lf1, kk1, kr1, kd1, kr21, kd21, capE1, mc1, PP1⟩ := M1
  obtain ⟨⟨ds2, cs2, mp2, pk2, cap2, cn2, sn2, n2, tk2, av2, lo2, md2⟩, ⟨ds_t2, cs_t2, mp_t2, pk_t2, cap_t2, cn_t2, sn_t2, n_t2, tk_t2, av_t2, lo_t2, md_t2⟩, ⟨ds_s2, cs_s2, mp_s2, pk_s2, cap_s2, cn_s2, sn_s2, n_s2, tk_s2, av_s2, lo_s2, md_s2⟩, ⟨hds2, hcs2, hmp2, hpk2, hcap2, hcn2, hsn2, hn2, htk2, hav2, hlo2, hmd2, hla2, hct2⟩, wc2, wd2, sg2, ln2, pl2, ch2, nu2, wb2, capw2, wl2, wn2, isv2, lf2, kk2, kr2, kd2, kr22, kd22, capE2, mc2, PP2⟩ := M2
  have r1 : ds1 = ds2 := q1
  have r2 : cs1 = cs2 := q2
  have r3 : mp1 = mp2 := q3
  have r5 : cn1 = cn2 := q5
  have r6 : (sn1, n1, tk1, av1, lo1, md1) = (sn2, n2, tk2, av2, lo2, md2) := q6
  clear q1 q2 q3 q4 q5 q6 h
  simp only [Prod.mk.injEq] at r6
  obtain ⟨r6, r7, r8, r9, r10, r11⟩ := r6
  subst r1 r2 r3 r5 r6 r7 r8 r9 r10 r11
  replace hO : OB PP1 PP2 mp1 pk1 pk2 cn1 := hO
  simp only [FF_X10_members]
theorem qa_members {K1 K2 : CR} {P0 : List PG} {Bd : Nat} {M1 M2 : MS} (h : PR K1 K2 P0 Bd M1 M2) (a1 : Int32) : RQ K1 K2 P0 Bd 1 6 M1 M2 (F_L_members M1 a1) (F_L_members M2 a1) := by
  unfold F_L_members
  rw [ff_members h, kl_members, kl_members]
  exact rq_pure h 1 6 _
def VW_busiest (st : Nat) (v : Int32) : Int32 := (if st = 0 then v else (-1001))
theorem kl_busiest (M : MS) (y2 : Nat × Int32) : K_L_busiest_2 M y2 = adc 1 6 (VW_busiest y2.1 y2.2, M, 0, 0) := by
  unfold K_L_busiest_2 VW_busiest
  by_cases c0 : y2.1 = 0 <;> first | (simp only [c0, if_true, if_false]; done) | (simp [c0]; done)
theorem ff_busiest {K1 K2 : CR} {P0 : List PG} {Bd : Nat} {M1 M2 : MS} (h : PR K1 K2 P0 Bd M1 M2) (a1 : Int32) : FF_X10_busiest M1 a1 = FF_X10_busiest M2 a1 := by
  have hO := OBM h
  obtain ⟨q1, q2, q3, q4, q5, q6⟩ := EQM h
  obtain ⟨⟨ds1, cs1, mp1, pk1, cap1, cn1, sn1, n1, tk1, av1, lo1, md1⟩, ⟨ds_t1, cs_t1, mp_t1, pk_t1, cap_t1, cn_t1, sn_t1, n_t1, tk_t1, av_t1, lo_t1, md_t1⟩, ⟨ds_s1, cs_s1, mp_s1, pk_s1, cap_s1, cn_s1, sn_s1, n_s1, tk_s1, av_s1, lo_s1, md_s1⟩, ⟨hds1, hcs1, hmp1, hpk1, hcap1, hcn1, hsn1, hn1, htk1, hav1, hlo1, hmd1, hla1, hct1⟩, wc1, wd1, sg1, ln1, pl1, ch1, nu1, wb1, capw1, wl1, wn1, isv1, lf1, kk1, kr1, kd1, kr21, kd21, capE1, mc1, PP1⟩ := M1
  obtain ⟨⟨ds2, cs2, mp2, pk2, cap2, cn2, sn2, n2, tk2, av2, lo2, md2⟩, ⟨ds_t2, cs_t2, mp_t2, pk_t2, cap_t2, cn_t2, sn_t2, n_t2, tk_t2, av_t2, lo_t2, md_t2⟩, ⟨ds_s2, cs_s2, mp_s2, pk_s2, cap_s2, cn_s2, sn_s2, n_s2, tk_s2, av_s2, lo_s2, md_s2⟩, ⟨hds2, hcs2, hmp2, hpk2, hcap2, hcn2, hsn2, hn2, htk2, hav2, hlo2, hmd2, hla2, hct2⟩, wc2, wd2, sg2, ln2, pl2, ch2, nu2, wb2, capw2, wl2, wn2, isv2, lf2, kk2, kr2, kd2, kr22, kd22, capE2, mc2, PP2⟩ := M2
  have r1 : ds1 = ds2 := q1
  have r2 : cs1 = cs2 := q2
  have r3 : mp1 = mp2 := q3
  have r5 : cn1 = cn2 := q5
  have r6 : (sn1, n1, tk1, av1, lo1, md1) = (sn2, n2, tk2, av2, lo2, md2) := q6
  clear q1 q2 q3 q4 q5 q6 h
  simp only [Prod.mk.injEq] at r6
  obtain ⟨r6, r7, r8, r9, r10, r11⟩ := r6
  subst r1 r2 r3 r5 r6 r7 r8 r9 r10 r11
  replace hO : OB PP1 PP2 mp1 pk1 pk2 cn1 := hO
  simp only [FF_X10_busiest]
  rw [cg_F_X10_busiest hO]
theorem qa_busiest {K1 K2 : CR} {P0 : List PG} {Bd : Nat} {M1 M2 : MS} (h : PR K1 K2 P0 Bd M1 M2) (a1 : Int32) : RQ K1 K2 P0 Bd 1 6 M1 M2 (F_L_busiest M1 a1) (F_L_busiest M2 a1) := by
  unfold F_L_busiest
  rw [ff_busiest h, kl_busiest, kl_busiest]
  exact rq_pure h 1 6 _
def VW_agree (st : Nat) (v : Int32) : Int32 := (if st = 0 then (if v = 0 then 0 else 1) else (-1001))
theorem kl_agree (M : MS) (y2 : Nat × Int32) : K_L_agree_2 M y2 = adc 1 6 (VW_agree y2.1 y2.2, M, 0, 0) := by
  unfold K_L_agree_2 VW_agree
  by_cases c0 : y2.1 = 0 <;> by_cases c1 : y2.2 = 0 <;> first | (simp only [c0, c1, if_true, if_false]; done) | (simp [c0, c1]; done)
theorem ff_agree {K1 K2 : CR} {P0 : List PG} {Bd : Nat} {M1 M2 : MS} (h : PR K1 K2 P0 Bd M1 M2) (a1 : Int32) : FF_X10_agree M1 a1 = FF_X10_agree M2 a1 := by
  have hO := OBM h
  obtain ⟨q1, q2, q3, q4, q5, q6⟩ := EQM h
  obtain ⟨⟨ds1, cs1, mp1, pk1, cap1, cn1, sn1, n1, tk1, av1, lo1, md1⟩, ⟨ds_t1, cs_t1, mp_t1, pk_t1, cap_t1, cn_t1, sn_t1, n_t1, tk_t1, av_t1, lo_t1, md_t1⟩, ⟨ds_s1, cs_s1, mp_s1, pk_s1, cap_s1, cn_s1, sn_s1, n_s1, tk_s1, av_s1, lo_s1, md_s1⟩, ⟨hds1, hcs1, hmp1, hpk1, hcap1, hcn1, hsn1, hn1, htk1, hav1, hlo1, hmd1, hla1, hct1⟩, wc1, wd1, sg1, ln1, pl1, ch1, nu1, wb1, capw1, wl1, wn1, isv1, lf1, kk1, kr1, kd1, kr21, kd21, capE1, mc1, PP1⟩ := M1
  obtain ⟨⟨ds2, cs2, mp2, pk2, cap2, cn2, sn2, n2, tk2, av2, lo2, md2⟩, ⟨ds_t2, cs_t2, mp_t2, pk_t2, cap_t2, cn_t2, sn_t2, n_t2, tk_t2, av_t2, lo_t2, md_t2⟩, ⟨ds_s2, cs_s2, mp_s2, pk_s2, cap_s2, cn_s2, sn_s2, n_s2, tk_s2, av_s2, lo_s2, md_s2⟩, ⟨hds2, hcs2, hmp2, hpk2, hcap2, hcn2, hsn2, hn2, htk2, hav2, hlo2, hmd2, hla2, hct2⟩, wc2, wd2, sg2, ln2, pl2, ch2, nu2, wb2, capw2, wl2, wn2, isv2, lf2, kk2, kr2, kd2, kr22, kd22, capE2, mc2, PP2⟩ := M2
  have r1 : ds1 = ds2 := q1
  have r2 : cs1 = cs2 := q2
  have r3 : mp1 = mp2 := q3
  have r5 : cn1 = cn2 := q5
  have r6 : (sn1, n1, tk1, av1, lo1, md1) = (sn2, n2, tk2, av2, lo2, md2) := q6
  clear q1 q2 q3 q4 q5 q6 h
  simp only [Prod.mk.injEq] at r6
  obtain ⟨r6, r7, r8, r9, r10, r11⟩ := r6
  subst r1 r2 r3 r5 r6 r7 r8 r9 r10 r11
  replace hO : OB PP1 PP2 mp1 pk1 pk2 cn1 := hO
  simp only [FF_X10_agree]
  rw [cg_F_X10_agree hO]
theorem qa_agree {K1 K2 : CR} {P0 : List PG} {Bd : Nat} {M1 M2 : MS} (h : PR K1 K2 P0 Bd M1 M2) (a1 : Int32) : RQ K1 K2 P0 Bd 1 6 M1 M2 (F_L_agree M1 a1) (F_L_agree M2 a1) := by
  unfold F_L_agree
  rw [ff_agree h, kl_agree, kl_agree]
  exact rq_pure h 1 6 _
def VW_agreeAgain (st : Nat) (v : Int32) : Int32 := (if st = 0 then (if v = 0 then 0 else 1) else (-1001))
theorem kl_agreeAgain (M : MS) (y2 : Nat × Int32) : K_L_agreeAgain_2 M y2 = adc 1 6 (VW_agreeAgain y2.1 y2.2, M, 0, 0) := by
  unfold K_L_agreeAgain_2 VW_agreeAgain
  by_cases c0 : y2.1 = 0 <;> by_cases c1 : y2.2 = 0 <;> first | (simp only [c0, c1, if_true, if_false]; done) | (simp [c0, c1]; done)
theorem ff_agreeAgain {K1 K2 : CR} {P0 : List PG} {Bd : Nat} {M1 M2 : MS} (h : PR K1 K2 P0 Bd M1 M2) (a1 : Int32) : FF_X10_agreeAgain M1 a1 = FF_X10_agreeAgain M2 a1 := by
  have hO := OBM h
  obtain ⟨q1, q2, q3, q4, q5, q6⟩ := EQM h
  obtain ⟨⟨ds1, cs1, mp1, pk1, cap1, cn1, sn1, n1, tk1, av1, lo1, md1⟩, ⟨ds_t1, cs_t1, mp_t1, pk_t1, cap_t1, cn_t1, sn_t1, n_t1, tk_t1, av_t1, lo_t1, md_t1⟩, ⟨ds_s1, cs_s1, mp_s1, pk_s1, cap_s1, cn_s1, sn_s1, n_s1, tk_s1, av_s1, lo_s1, md_s1⟩, ⟨hds1, hcs1, hmp1, hpk1, hcap1, hcn1, hsn1, hn1, htk1, hav1, hlo1, hmd1, hla1, hct1⟩, wc1, wd1, sg1, ln1, pl1, ch1, nu1, wb1, capw1, wl1, wn1, isv1, lf1, kk1, kr1, kd1, kr21, kd21, capE1, mc1, PP1⟩ := M1
  obtain ⟨⟨ds2, cs2, mp2, pk2, cap2, cn2, sn2, n2, tk2, av2, lo2, md2⟩, ⟨ds_t2, cs_t2, mp_t2, pk_t2, cap_t2, cn_t2, sn_t2, n_t2, tk_t2, av_t2, lo_t2, md_t2⟩, ⟨ds_s2, cs_s2, mp_s2, pk_s2, cap_s2, cn_s2, sn_s2, n_s2, tk_s2, av_s2, lo_s2, md_s2⟩, ⟨hds2, hcs2, hmp2, hpk2, hcap2, hcn2, hsn2, hn2, htk2, hav2, hlo2, hmd2, hla2, hct2⟩, wc2, wd2, sg2, ln2, pl2, ch2, nu2, wb2, capw2, wl2, wn2, isv2, lf2, kk2, kr2, kd2, kr22, kd22, capE2, mc2, PP2⟩ := M2
  have r1 : ds1 = ds2 := q1
  have r2 : cs1 = cs2 := q2
  have r3 : mp1 = mp2 := q3
  have r5 : cn1 = cn2 := q5
  have r6 : (sn1, n1, tk1, av1, lo1, md1) = (sn2, n2, tk2, av2, lo2, md2) := q6
  clear q1 q2 q3 q4 q5 q6 h
  simp only [Prod.mk.injEq] at r6
  obtain ⟨r6, r7, r8, r9, r10, r11⟩ := r6
  subst r1 r2 r3 r5 r6 r7 r8 r9 r10 r11
  replace hO : OB PP1 PP2 mp1 pk1 pk2 cn1 := hO
  simp only [FF_X10_agreeAgain]
  rw [cg_F_X10_agreeAgain hO]
theorem qa_agreeAgain {K1 K2 : CR} {P0 : List PG} {Bd : Nat} {M1 M2 : MS} (h : PR K1 K2 P0 Bd M1 M2) (a1 : Int32) : RQ K1 K2 P0 Bd 1 6 M1 M2 (F_L_agreeAgain M1 a1) (F_L_agreeAgain M2 a1) := by
  unfold F_L_agreeAgain
  rw [ff_agreeAgain h, kl_agreeAgain, kl_agreeAgain]
  exact rq_pure h 1 6 _
def VW_meanCost (st : Nat) (v : UInt64) : UInt64 := (if st = 0 then v else (13875388141788987392 : UInt64))
theorem kl_meanCost (M : MS) (y1 : Nat × UInt64) : K_L_meanCost_1 M y1 = adc 1 6 (VW_meanCost y1.1 y1.2, M, 0, 0) := by
  unfold K_L_meanCost_1 VW_meanCost
  by_cases c0 : y1.1 = 0 <;> first | (simp only [c0, if_true, if_false]; done) | (simp [c0]; done)
theorem ff_meanCost {K1 K2 : CR} {P0 : List PG} {Bd : Nat} {M1 M2 : MS} (h : PR K1 K2 P0 Bd M1 M2) : FF_X10_meanCost M1  = FF_X10_meanCost M2  := by
  have hO := OBM h
  obtain ⟨q1, q2, q3, q4, q5, q6⟩ := EQM h
  obtain ⟨⟨ds1, cs1, mp1, pk1, cap1, cn1, sn1, n1, tk1, av1, lo1, md1⟩, ⟨ds_t1, cs_t1, mp_t1, pk_t1, cap_t1, cn_t1, sn_t1, n_t1, tk_t1, av_t1, lo_t1, md_t1⟩, ⟨ds_s1, cs_s1, mp_s1, pk_s1, cap_s1, cn_s1, sn_s1, n_s1, tk_s1, av_s1, lo_s1, md_s1⟩, ⟨hds1, hcs1, hmp1, hpk1, hcap1, hcn1, hsn1, hn1, htk1, hav1, hlo1, hmd1, hla1, hct1⟩, wc1, wd1, sg1, ln1, pl1, ch1, nu1, wb1, capw1, wl1, wn1, isv1, lf1, kk1, kr1, kd1, kr21, kd21, capE1, mc1, PP1⟩ := M1
  obtain ⟨⟨ds2, cs2, mp2, pk2, cap2, cn2, sn2, n2, tk2, av2, lo2, md2⟩, ⟨ds_t2, cs_t2, mp_t2, pk_t2, cap_t2, cn_t2, sn_t2, n_t2, tk_t2, av_t2, lo_t2, md_t2⟩, ⟨ds_s2, cs_s2, mp_s2, pk_s2, cap_s2, cn_s2, sn_s2, n_s2, tk_s2, av_s2, lo_s2, md_s2⟩, ⟨hds2, hcs2, hmp2, hpk2, hcap2, hcn2, hsn2, hn2, htk2, hav2, hlo2, hmd2, hla2, hct2⟩, wc2, wd2, sg2, ln2, pl2, ch2, nu2, wb2, capw2, wl2, wn2, isv2, lf2, kk2, kr2, kd2, kr22, kd22, capE2, mc2, PP2⟩ := M2
  have r1 : ds1 = ds2 := q1
  have r2 : cs1 = cs2 := q2
  have r3 : mp1 = mp2 := q3
  have r5 : cn1 = cn2 := q5
  have r6 : (sn1, n1, tk1, av1, lo1, md1) = (sn2, n2, tk2, av2, lo2, md2) := q6
  clear q1 q2 q3 q4 q5 q6 h
  simp only [Prod.mk.injEq] at r6
  obtain ⟨r6, r7, r8, r9, r10, r11⟩ := r6
  subst r1 r2 r3 r5 r6 r7 r8 r9 r10 r11
  replace hO : OB PP1 PP2 mp1 pk1 pk2 cn1 := hO
  simp only [FF_X10_meanCost]
theorem qa_meanCost {K1 K2 : CR} {P0 : List PG} {Bd : Nat} {M1 M2 : MS} (h : PR K1 K2 P0 Bd M1 M2) : RQ K1 K2 P0 Bd 1 6 M1 M2 (F_L_meanCost M1 ) (F_L_meanCost M2 ) := by
  unfold F_L_meanCost
  rw [ff_meanCost h, kl_meanCost, kl_meanCost]
  exact rq_pure h 1 6 _
def VW_lostShare (st : Nat) (v : UInt32) : UInt32 := (if st = 0 then v else (3296346112 : UInt32))
theorem kl_lostShare (M : MS) (y1 : Nat × UInt32) : K_L_lostShare_1 M y1 = adc 1 6 (VW_lostShare y1.1 y1.2, M, 0, 0) := by
  unfold K_L_lostShare_1 VW_lostShare
  by_cases c0 : y1.1 = 0 <;> first | (simp only [c0, if_true, if_false]; done) | (simp [c0]; done)
theorem ff_lostShare {K1 K2 : CR} {P0 : List PG} {Bd : Nat} {M1 M2 : MS} (h : PR K1 K2 P0 Bd M1 M2) : FF_X10_lostShare M1  = FF_X10_lostShare M2  := by
  have hO := OBM h
  obtain ⟨q1, q2, q3, q4, q5, q6⟩ := EQM h
  obtain ⟨⟨ds1, cs1, mp1, pk1, cap1, cn1, sn1, n1, tk1, av1, lo1, md1⟩, ⟨ds_t1, cs_t1, mp_t1, pk_t1, cap_t1, cn_t1, sn_t1, n_t1, tk_t1, av_t1, lo_t1, md_t1⟩, ⟨ds_s1, cs_s1, mp_s1, pk_s1, cap_s1, cn_s1, sn_s1, n_s1, tk_s1, av_s1, lo_s1, md_s1⟩, ⟨hds1, hcs1, hmp1, hpk1, hcap1, hcn1, hsn1, hn1, htk1, hav1, hlo1, hmd1, hla1, hct1⟩, wc1, wd1, sg1, ln1, pl1, ch1, nu1, wb1, capw1, wl1, wn1, isv1, lf1, kk1, kr1, kd1, kr21, kd21, capE1, mc1, PP1⟩ := M1
  obtain ⟨⟨ds2, cs2, mp2, pk2, cap2, cn2, sn2, n2, tk2, av2, lo2, md2⟩, ⟨ds_t2, cs_t2, mp_t2, pk_t2, cap_t2, cn_t2, sn_t2, n_t2, tk_t2, av_t2, lo_t2, md_t2⟩, ⟨ds_s2, cs_s2, mp_s2, pk_s2, cap_s2, cn_s2, sn_s2, n_s2, tk_s2, av_s2, lo_s2, md_s2⟩, ⟨hds2, hcs2, hmp2, hpk2, hcap2, hcn2, hsn2, hn2, htk2, hav2, hlo2, hmd2, hla2, hct2⟩, wc2, wd2, sg2, ln2, pl2, ch2, nu2, wb2, capw2, wl2, wn2, isv2, lf2, kk2, kr2, kd2, kr22, kd22, capE2, mc2, PP2⟩ := M2
  have r1 : ds1 = ds2 := q1
  have r2 : cs1 = cs2 := q2
  have r3 : mp1 = mp2 := q3
  have r5 : cn1 = cn2 := q5
  have r6 : (sn1, n1, tk1, av1, lo1, md1) = (sn2, n2, tk2, av2, lo2, md2) := q6
  clear q1 q2 q3 q4 q5 q6 h
  simp only [Prod.mk.injEq] at r6
  obtain ⟨r6, r7, r8, r9, r10, r11⟩ := r6
  subst r1 r2 r3 r5 r6 r7 r8 r9 r10 r11
  replace hO : OB PP1 PP2 mp1 pk1 pk2 cn1 := hO
  simp only [FF_X10_lostShare]
theorem qa_lostShare {K1 K2 : CR} {P0 : List PG} {Bd : Nat} {M1 M2 : MS} (h : PR K1 K2 P0 Bd M1 M2) : RQ K1 K2 P0 Bd 1 6 M1 M2 (F_L_lostShare M1 ) (F_L_lostShare M2 ) := by
  unfold F_L_lostShare
  rw [ff_lostShare h, kl_lostShare, kl_lostShare]
  exact rq_pure h 1 6 _
def VW_distance (st : Nat) (v : Int32) : Int32 := (if st = 0 then v else (if st = 2 then (-1001) else (-1002)))
theorem kl_distance (M : MS) (y3 : Nat × Int32 × (Nat → Int32) × (Nat → Int32)) : K_L_distance_3 M y3 = adc 3 18 (VW_distance y3.1 y3.2.1, (T_X10_distance M y3), 0, 0) := by
  unfold K_L_distance_3 VW_distance
  by_cases c0 : y3.1 = 0 <;> by_cases c1 : y3.1 = 2 <;> first | (simp only [c0, c1, if_true, if_false]; done) | (simp [c0, c1]; done)
theorem ff_distance {K1 K2 : CR} {P0 : List PG} {Bd : Nat} {M1 M2 : MS} (h : PR K1 K2 P0 Bd M1 M2) (a1 a2 : Int32) : RWv (FF_X10_distance M1 a1 a2) (FF_X10_distance M2 a1 a2) := by
  have z1 := h.1.2.2.1
  have z2 := h.1.2.2.2.1
  have z3 := h.2.1.2.2.1
  have z4 := h.2.1.2.2.2.1
  have hO := OBM h
  obtain ⟨q1, q2, q3, q4, q5, q6⟩ := EQM h
  obtain ⟨⟨ds1, cs1, mp1, pk1, cap1, cn1, sn1, n1, tk1, av1, lo1, md1⟩, ⟨ds_t1, cs_t1, mp_t1, pk_t1, cap_t1, cn_t1, sn_t1, n_t1, tk_t1, av_t1, lo_t1, md_t1⟩, ⟨ds_s1, cs_s1, mp_s1, pk_s1, cap_s1, cn_s1, sn_s1, n_s1, tk_s1, av_s1, lo_s1, md_s1⟩, ⟨hds1, hcs1, hmp1, hpk1, hcap1, hcn1, hsn1, hn1, htk1, hav1, hlo1, hmd1, hla1, hct1⟩, wc1, wd1, sg1, ln1, pl1, ch1, nu1, wb1, capw1, wl1, wn1, isv1, lf1, kk1, kr1, kd1, kr21, kd21, capE1, mc1, PP1⟩ := M1
  obtain ⟨⟨ds2, cs2, mp2, pk2, cap2, cn2, sn2, n2, tk2, av2, lo2, md2⟩, ⟨ds_t2, cs_t2, mp_t2, pk_t2, cap_t2, cn_t2, sn_t2, n_t2, tk_t2, av_t2, lo_t2, md_t2⟩, ⟨ds_s2, cs_s2, mp_s2, pk_s2, cap_s2, cn_s2, sn_s2, n_s2, tk_s2, av_s2, lo_s2, md_s2⟩, ⟨hds2, hcs2, hmp2, hpk2, hcap2, hcn2, hsn2, hn2, htk2, hav2, hlo2, hmd2, hla2, hct2⟩, wc2, wd2, sg2, ln2, pl2, ch2, nu2, wb2, capw2, wl2, wn2, isv2, lf2, kk2, kr2, kd2, kr22, kd22, capE2, mc2, PP2⟩ := M2
  have r1 : ds1 = ds2 := q1
  have r2 : cs1 = cs2 := q2
  have r3 : mp1 = mp2 := q3
  have r5 : cn1 = cn2 := q5
  have r6 : (sn1, n1, tk1, av1, lo1, md1) = (sn2, n2, tk2, av2, lo2, md2) := q6
  clear q1 q2 q3 q4 q5 q6 h
  simp only [Prod.mk.injEq] at r6
  obtain ⟨r6, r7, r8, r9, r10, r11⟩ := r6
  subst r1 r2 r3 r5 r6 r7 r8 r9 r10 r11
  replace hO : OB PP1 PP2 mp1 pk1 pk2 cn1 := hO
  simp only [FF_X10_distance]
  rw [cg_F_X10_distance hO]
  exact rw_distance (PP := PP1) (ds := ds1) (cs := cs1) (mp := mp1) (n := n1) z1 z2 z3 z4 a1 a2
theorem ph_distance (M : MS) (y : Nat × Int32 × (Nat → Int32) × (Nat → Int32)) : PHI (T_X10_distance M y) = PHI M ∧ PHC (T_X10_distance M y) = PHC M ∧ core (T_X10_distance M y) = core M ∧ arch (T_X10_distance M y) = arch M ∧ tabs (T_X10_distance M y) = (y.2.2.1, y.2.2.2) ∧ (∀ Bd, XL Bd (T_X10_distance M y) = XL Bd M) := by
  obtain ⟨⟨ds, cs, mp, pk, cap, cn, sn, n, tk, av, lo, md⟩, ⟨ds_t, cs_t, mp_t, pk_t, cap_t, cn_t, sn_t, n_t, tk_t, av_t, lo_t, md_t⟩, ⟨ds_s, cs_s, mp_s, pk_s, cap_s, cn_s, sn_s, n_s, tk_s, av_s, lo_s, md_s⟩, ⟨hds, hcs, hmp, hpk, hcap, hcn, hsn, hn, htk, hav, hlo, hmd, hla, hct⟩, wc, wd, sg, ln, pl, ch, nu, wb, capw, wl, wn, isv, lf, kk, kr, kd, kr2, kd2, capE, mc, PP⟩ := M
  exact ⟨rfl, rfl, rfl, rfl, rfl, fun _ => rfl⟩
theorem pr_distance {K1 K2 : CR} {P0 : List PG} {Bd : Nat} {M1 M2 : MS} (h : PR K1 K2 P0 Bd M1 M2) {y1 y2 : Nat × Int32 × (Nat → Int32) × (Nat → Int32)} (w3 : Zf 36 y1.2.2.1) (w4 : Zf 6 y1.2.2.2) (w5 : Zf 36 y2.2.2.1) (w6 : Zf 6 y2.2.2.2) : PR K1 K2 P0 Bd (T_X10_distance M1 y1) (T_X10_distance M2 y2) := by
  obtain ⟨⟨g1, g2, z1, z2, x1, b1⟩, ⟨g3, g4, z3, z4, x2, b2⟩, q, hS⟩ := h
  obtain ⟨_, _, p1, p2, p3, p7⟩ := ph_distance M1 y1
  obtain ⟨_, _, p4, p5, p6, p8⟩ := ph_distance M2 y2
  exact ⟨⟨p1.trans g1, by rw [p2]; exact g2, by rw [p3]; exact w3, by rw [p3]; exact w4, by rw [p7]; exact x1, b1⟩, ⟨p4.trans g3, by rw [p5]; exact g4, by rw [p6]; exact w5, by rw [p6]; exact w6, by rw [p8]; exact x2, b2⟩, q, hS⟩
theorem qa_distance {K1 K2 : CR} {P0 : List PG} {Bd : Nat} {M1 M2 : MS} (h : PR K1 K2 P0 Bd M1 M2) (a1 a2 : Int32) : RQ K1 K2 P0 Bd 3 18 M1 M2 (F_L_distance M1 a1 a2) (F_L_distance M2 a1 a2) := by
  have w := ff_distance h a1 a2
  unfold F_L_distance
  rw [kl_distance, kl_distance]
  generalize FF_X10_distance M1 a1 a2 = y1 at w ⊢
  generalize FF_X10_distance M2 a1 a2 = y2 at w ⊢
  obtain ⟨w1, w2, w3, w4, w5, w6⟩ := w
  rw [w1, w2]
  exact rq_mv (pr_distance h w3 w4 w5 w6) (ph_distance M1 y1).1 (ph_distance M2 y2).1 (ph_distance M1 y1).2.1 (ph_distance M2 y2).2.1 3 18 _
def VW_distanceAgain (st : Nat) (v : Int32) : Int32 := (if st = 0 then v else (if st = 2 then (-1001) else (-1002)))
theorem kl_distanceAgain (M : MS) (y3 : Nat × Int32 × (Nat → Int32) × (Nat → Int32)) : K_L_distanceAgain_3 M y3 = adc 3 18 (VW_distanceAgain y3.1 y3.2.1, (T_X10_distanceAgain M y3), 0, 0) := by
  unfold K_L_distanceAgain_3 VW_distanceAgain
  by_cases c0 : y3.1 = 0 <;> by_cases c1 : y3.1 = 2 <;> first | (simp only [c0, c1, if_true, if_false]; done) | (simp [c0, c1]; done)
theorem ff_distanceAgain {K1 K2 : CR} {P0 : List PG} {Bd : Nat} {M1 M2 : MS} (h : PR K1 K2 P0 Bd M1 M2) (a1 a2 : Int32) : RWv (FF_X10_distanceAgain M1 a1 a2) (FF_X10_distanceAgain M2 a1 a2) := by
  have z1 := h.1.2.2.1
  have z2 := h.1.2.2.2.1
  have z3 := h.2.1.2.2.1
  have z4 := h.2.1.2.2.2.1
  have hO := OBM h
  obtain ⟨q1, q2, q3, q4, q5, q6⟩ := EQM h
  obtain ⟨⟨ds1, cs1, mp1, pk1, cap1, cn1, sn1, n1, tk1, av1, lo1, md1⟩, ⟨ds_t1, cs_t1, mp_t1, pk_t1, cap_t1, cn_t1, sn_t1, n_t1, tk_t1, av_t1, lo_t1, md_t1⟩, ⟨ds_s1, cs_s1, mp_s1, pk_s1, cap_s1, cn_s1, sn_s1, n_s1, tk_s1, av_s1, lo_s1, md_s1⟩, ⟨hds1, hcs1, hmp1, hpk1, hcap1, hcn1, hsn1, hn1, htk1, hav1, hlo1, hmd1, hla1, hct1⟩, wc1, wd1, sg1, ln1, pl1, ch1, nu1, wb1, capw1, wl1, wn1, isv1, lf1, kk1, kr1, kd1, kr21, kd21, capE1, mc1, PP1⟩ := M1
  obtain ⟨⟨ds2, cs2, mp2, pk2, cap2, cn2, sn2, n2, tk2, av2, lo2, md2⟩, ⟨ds_t2, cs_t2, mp_t2, pk_t2, cap_t2, cn_t2, sn_t2, n_t2, tk_t2, av_t2, lo_t2, md_t2⟩, ⟨ds_s2, cs_s2, mp_s2, pk_s2, cap_s2, cn_s2, sn_s2, n_s2, tk_s2, av_s2, lo_s2, md_s2⟩, ⟨hds2, hcs2, hmp2, hpk2, hcap2, hcn2, hsn2, hn2, htk2, hav2, hlo2, hmd2, hla2, hct2⟩, wc2, wd2, sg2, ln2, pl2, ch2, nu2, wb2, capw2, wl2, wn2, isv2, lf2, kk2, kr2, kd2, kr22, kd22, capE2, mc2, PP2⟩ := M2
  have r1 : ds1 = ds2 := q1
  have r2 : cs1 = cs2 := q2
  have r3 : mp1 = mp2 := q3
  have r5 : cn1 = cn2 := q5
  have r6 : (sn1, n1, tk1, av1, lo1, md1) = (sn2, n2, tk2, av2, lo2, md2) := q6
  clear q1 q2 q3 q4 q5 q6 h
  simp only [Prod.mk.injEq] at r6
  obtain ⟨r6, r7, r8, r9, r10, r11⟩ := r6
  subst r1 r2 r3 r5 r6 r7 r8 r9 r10 r11
  replace hO : OB PP1 PP2 mp1 pk1 pk2 cn1 := hO
  simp only [FF_X10_distanceAgain]
  rw [cg_F_X10_distanceAgain hO]
  exact rw_distanceAgain (PP := PP1) (ds := ds1) (cs := cs1) (mp := mp1) (n := n1) z1 z2 z3 z4 a1 a2
theorem ph_distanceAgain (M : MS) (y : Nat × Int32 × (Nat → Int32) × (Nat → Int32)) : PHI (T_X10_distanceAgain M y) = PHI M ∧ PHC (T_X10_distanceAgain M y) = PHC M ∧ core (T_X10_distanceAgain M y) = core M ∧ arch (T_X10_distanceAgain M y) = arch M ∧ tabs (T_X10_distanceAgain M y) = (y.2.2.1, y.2.2.2) ∧ (∀ Bd, XL Bd (T_X10_distanceAgain M y) = XL Bd M) := by
  obtain ⟨⟨ds, cs, mp, pk, cap, cn, sn, n, tk, av, lo, md⟩, ⟨ds_t, cs_t, mp_t, pk_t, cap_t, cn_t, sn_t, n_t, tk_t, av_t, lo_t, md_t⟩, ⟨ds_s, cs_s, mp_s, pk_s, cap_s, cn_s, sn_s, n_s, tk_s, av_s, lo_s, md_s⟩, ⟨hds, hcs, hmp, hpk, hcap, hcn, hsn, hn, htk, hav, hlo, hmd, hla, hct⟩, wc, wd, sg, ln, pl, ch, nu, wb, capw, wl, wn, isv, lf, kk, kr, kd, kr2, kd2, capE, mc, PP⟩ := M
  exact ⟨rfl, rfl, rfl, rfl, rfl, fun _ => rfl⟩
theorem pr_distanceAgain {K1 K2 : CR} {P0 : List PG} {Bd : Nat} {M1 M2 : MS} (h : PR K1 K2 P0 Bd M1 M2) {y1 y2 : Nat × Int32 × (Nat → Int32) × (Nat → Int32)} (w3 : Zf 36 y1.2.2.1) (w4 : Zf 6 y1.2.2.2) (w5 : Zf 36 y2.2.2.1) (w6 : Zf 6 y2.2.2.2) : PR K1 K2 P0 Bd (T_X10_distanceAgain M1 y1) (T_X10_distanceAgain M2 y2) := by
  obtain ⟨⟨g1, g2, z1, z2, x1, b1⟩, ⟨g3, g4, z3, z4, x2, b2⟩, q, hS⟩ := h
  obtain ⟨_, _, p1, p2, p3, p7⟩ := ph_distanceAgain M1 y1
  obtain ⟨_, _, p4, p5, p6, p8⟩ := ph_distanceAgain M2 y2
  exact ⟨⟨p1.trans g1, by rw [p2]; exact g2, by rw [p3]; exact w3, by rw [p3]; exact w4, by rw [p7]; exact x1, b1⟩, ⟨p4.trans g3, by rw [p5]; exact g4, by rw [p6]; exact w5, by rw [p6]; exact w6, by rw [p8]; exact x2, b2⟩, q, hS⟩
theorem qa_distanceAgain {K1 K2 : CR} {P0 : List PG} {Bd : Nat} {M1 M2 : MS} (h : PR K1 K2 P0 Bd M1 M2) (a1 a2 : Int32) : RQ K1 K2 P0 Bd 3 18 M1 M2 (F_L_distanceAgain M1 a1 a2) (F_L_distanceAgain M2 a1 a2) := by
  have w := ff_distanceAgain h a1 a2
  unfold F_L_distanceAgain
  rw [kl_distanceAgain, kl_distanceAgain]
  generalize FF_X10_distanceAgain M1 a1 a2 = y1 at w ⊢
  generalize FF_X10_distanceAgain M2 a1 a2 = y2 at w ⊢
  obtain ⟨w1, w2, w3, w4, w5, w6⟩ := w
  rw [w1, w2]
  exact rq_mv (pr_distanceAgain h w3 w4 w5 w6) (ph_distanceAgain M1 y1).1 (ph_distanceAgain M2 y2).1 (ph_distanceAgain M1 y1).2.1 (ph_distanceAgain M2 y2).2.1 3 18 _
def VW_next (st : Nat) (v : Int32) : Int32 := (if st = 0 then v else (if st = 2 then (-1001) else (-1002)))
theorem kl_next (M : MS) (y3 : Nat × Int32 × (Nat → Int32) × (Nat → Int32)) : K_L_next_3 M y3 = adc 3 18 (VW_next y3.1 y3.2.1, (T_X10_next M y3), 0, 0) := by
  unfold K_L_next_3 VW_next
  by_cases c0 : y3.1 = 0 <;> by_cases c1 : y3.1 = 2 <;> first | (simp only [c0, c1, if_true, if_false]; done) | (simp [c0, c1]; done)
theorem ff_next {K1 K2 : CR} {P0 : List PG} {Bd : Nat} {M1 M2 : MS} (h : PR K1 K2 P0 Bd M1 M2) (a1 a2 : Int32) : RWv (FF_X10_next M1 a1 a2) (FF_X10_next M2 a1 a2) := by
  have z1 := h.1.2.2.1
  have z2 := h.1.2.2.2.1
  have z3 := h.2.1.2.2.1
  have z4 := h.2.1.2.2.2.1
  have hO := OBM h
  obtain ⟨q1, q2, q3, q4, q5, q6⟩ := EQM h
  obtain ⟨⟨ds1, cs1, mp1, pk1, cap1, cn1, sn1, n1, tk1, av1, lo1, md1⟩, ⟨ds_t1, cs_t1, mp_t1, pk_t1, cap_t1, cn_t1, sn_t1, n_t1, tk_t1, av_t1, lo_t1, md_t1⟩, ⟨ds_s1, cs_s1, mp_s1, pk_s1, cap_s1, cn_s1, sn_s1, n_s1, tk_s1, av_s1, lo_s1, md_s1⟩, ⟨hds1, hcs1, hmp1, hpk1, hcap1, hcn1, hsn1, hn1, htk1, hav1, hlo1, hmd1, hla1, hct1⟩, wc1, wd1, sg1, ln1, pl1, ch1, nu1, wb1, capw1, wl1, wn1, isv1, lf1, kk1, kr1, kd1, kr21, kd21, capE1, mc1, PP1⟩ := M1
  obtain ⟨⟨ds2, cs2, mp2, pk2, cap2, cn2, sn2, n2, tk2, av2, lo2, md2⟩, ⟨ds_t2, cs_t2, mp_t2, pk_t2, cap_t2, cn_t2, sn_t2, n_t2, tk_t2, av_t2, lo_t2, md_t2⟩, ⟨ds_s2, cs_s2, mp_s2, pk_s2, cap_s2, cn_s2, sn_s2, n_s2, tk_s2, av_s2, lo_s2, md_s2⟩, ⟨hds2, hcs2, hmp2, hpk2, hcap2, hcn2, hsn2, hn2, htk2, hav2, hlo2, hmd2, hla2, hct2⟩, wc2, wd2, sg2, ln2, pl2, ch2, nu2, wb2, capw2, wl2, wn2, isv2, lf2, kk2, kr2, kd2, kr22, kd22, capE2, mc2, PP2⟩ := M2
  have r1 : ds1 = ds2 := q1
  have r2 : cs1 = cs2 := q2
  have r3 : mp1 = mp2 := q3
  have r5 : cn1 = cn2 := q5
  have r6 : (sn1, n1, tk1, av1, lo1, md1) = (sn2, n2, tk2, av2, lo2, md2) := q6
  clear q1 q2 q3 q4 q5 q6 h
  simp only [Prod.mk.injEq] at r6
  obtain ⟨r6, r7, r8, r9, r10, r11⟩ := r6
  subst r1 r2 r3 r5 r6 r7 r8 r9 r10 r11
  replace hO : OB PP1 PP2 mp1 pk1 pk2 cn1 := hO
  simp only [FF_X10_next]
  rw [cg_F_X10_next hO]
  exact rw_next (PP := PP1) (ds := ds1) (cs := cs1) (mp := mp1) (n := n1) z1 z2 z3 z4 a1 a2
theorem ph_next (M : MS) (y : Nat × Int32 × (Nat → Int32) × (Nat → Int32)) : PHI (T_X10_next M y) = PHI M ∧ PHC (T_X10_next M y) = PHC M ∧ core (T_X10_next M y) = core M ∧ arch (T_X10_next M y) = arch M ∧ tabs (T_X10_next M y) = (y.2.2.1, y.2.2.2) ∧ (∀ Bd, XL Bd (T_X10_next M y) = XL Bd M) := by
  obtain ⟨⟨ds, cs, mp, pk, cap, cn, sn, n, tk, av, lo, md⟩, ⟨ds_t, cs_t, mp_t, pk_t, cap_t, cn_t, sn_t, n_t, tk_t, av_t, lo_t, md_t⟩, ⟨ds_s, cs_s, mp_s, pk_s, cap_s, cn_s, sn_s, n_s, tk_s, av_s, lo_s, md_s⟩, ⟨hds, hcs, hmp, hpk, hcap, hcn, hsn, hn, htk, hav, hlo, hmd, hla, hct⟩, wc, wd, sg, ln, pl, ch, nu, wb, capw, wl, wn, isv, lf, kk, kr, kd, kr2, kd2, capE, mc, PP⟩ := M
  exact ⟨rfl, rfl, rfl, rfl, rfl, fun _ => rfl⟩
theorem pr_next {K1 K2 : CR} {P0 : List PG} {Bd : Nat} {M1 M2 : MS} (h : PR K1 K2 P0 Bd M1 M2) {y1 y2 : Nat × Int32 × (Nat → Int32) × (Nat → Int32)} (w3 : Zf 36 y1.2.2.1) (w4 : Zf 6 y1.2.2.2) (w5 : Zf 36 y2.2.2.1) (w6 : Zf 6 y2.2.2.2) : PR K1 K2 P0 Bd (T_X10_next M1 y1) (T_X10_next M2 y2) := by
  obtain ⟨⟨g1, g2, z1, z2, x1, b1⟩, ⟨g3, g4, z3, z4, x2, b2⟩, q, hS⟩ := h
  obtain ⟨_, _, p1, p2, p3, p7⟩ := ph_next M1 y1
  obtain ⟨_, _, p4, p5, p6, p8⟩ := ph_next M2 y2
  exact ⟨⟨p1.trans g1, by rw [p2]; exact g2, by rw [p3]; exact w3, by rw [p3]; exact w4, by rw [p7]; exact x1, b1⟩, ⟨p4.trans g3, by rw [p5]; exact g4, by rw [p6]; exact w5, by rw [p6]; exact w6, by rw [p8]; exact x2, b2⟩, q, hS⟩
theorem qa_next {K1 K2 : CR} {P0 : List PG} {Bd : Nat} {M1 M2 : MS} (h : PR K1 K2 P0 Bd M1 M2) (a1 a2 : Int32) : RQ K1 K2 P0 Bd 3 18 M1 M2 (F_L_next M1 a1 a2) (F_L_next M2 a1 a2) := by
  have w := ff_next h a1 a2
  unfold F_L_next
  rw [kl_next, kl_next]
  generalize FF_X10_next M1 a1 a2 = y1 at w ⊢
  generalize FF_X10_next M2 a1 a2 = y2 at w ⊢
  obtain ⟨w1, w2, w3, w4, w5, w6⟩ := w
  rw [w1, w2]
  exact rq_mv (pr_next h w3 w4 w5 w6) (ph_next M1 y1).1 (ph_next M2 y2).1 (ph_next M1 y1).2.1 (ph_next M2 y2).2.1 3 18 _
def VW_reached (st : Nat) (v : Int32) : Int32 := (if st = 0 then v else (-1001))
theorem kl_reached (M : MS) (y2 : Nat × Int32 × (Nat → Int32) × (Nat → Int32)) : K_L_reached_2 M y2 = adc 1 6 (VW_reached y2.1 y2.2.1, (T_X10_reached M y2), 0, 0) := by
  unfold K_L_reached_2 VW_reached
  by_cases c0 : y2.1 = 0 <;> first | (simp only [c0, if_true, if_false]; done) | (simp [c0]; done)
theorem ff_reached {K1 K2 : CR} {P0 : List PG} {Bd : Nat} {M1 M2 : MS} (h : PR K1 K2 P0 Bd M1 M2) (a1 : Int32) : RWv (FF_X10_reached M1 a1) (FF_X10_reached M2 a1) := by
  have z1 := h.1.2.2.1
  have z2 := h.1.2.2.2.1
  have z3 := h.2.1.2.2.1
  have z4 := h.2.1.2.2.2.1
  have hO := OBM h
  obtain ⟨q1, q2, q3, q4, q5, q6⟩ := EQM h
  obtain ⟨⟨ds1, cs1, mp1, pk1, cap1, cn1, sn1, n1, tk1, av1, lo1, md1⟩, ⟨ds_t1, cs_t1, mp_t1, pk_t1, cap_t1, cn_t1, sn_t1, n_t1, tk_t1, av_t1, lo_t1, md_t1⟩, ⟨ds_s1, cs_s1, mp_s1, pk_s1, cap_s1, cn_s1, sn_s1, n_s1, tk_s1, av_s1, lo_s1, md_s1⟩, ⟨hds1, hcs1, hmp1, hpk1, hcap1, hcn1, hsn1, hn1, htk1, hav1, hlo1, hmd1, hla1, hct1⟩, wc1, wd1, sg1, ln1, pl1, ch1, nu1, wb1, capw1, wl1, wn1, isv1, lf1, kk1, kr1, kd1, kr21, kd21, capE1, mc1, PP1⟩ := M1
  obtain ⟨⟨ds2, cs2, mp2, pk2, cap2, cn2, sn2, n2, tk2, av2, lo2, md2⟩, ⟨ds_t2, cs_t2, mp_t2, pk_t2, cap_t2, cn_t2, sn_t2, n_t2, tk_t2, av_t2, lo_t2, md_t2⟩, ⟨ds_s2, cs_s2, mp_s2, pk_s2, cap_s2, cn_s2, sn_s2, n_s2, tk_s2, av_s2, lo_s2, md_s2⟩, ⟨hds2, hcs2, hmp2, hpk2, hcap2, hcn2, hsn2, hn2, htk2, hav2, hlo2, hmd2, hla2, hct2⟩, wc2, wd2, sg2, ln2, pl2, ch2, nu2, wb2, capw2, wl2, wn2, isv2, lf2, kk2, kr2, kd2, kr22, kd22, capE2, mc2, PP2⟩ := M2
  have r1 : ds1 = ds2 := q1
  have r2 : cs1 = cs2 := q2
  have r3 : mp1 = mp2 := q3
  have r5 : cn1 = cn2 := q5
  have r6 : (sn1, n1, tk1, av1, lo1, md1) = (sn2, n2, tk2, av2, lo2, md2) := q6
  clear q1 q2 q3 q4 q5 q6 h
  simp only [Prod.mk.injEq] at r6
  obtain ⟨r6, r7, r8, r9, r10, r11⟩ := r6
  subst r1 r2 r3 r5 r6 r7 r8 r9 r10 r11
  replace hO : OB PP1 PP2 mp1 pk1 pk2 cn1 := hO
  simp only [FF_X10_reached]
  rw [cg_F_X10_reached hO]
  exact rw_reached (PP := PP1) (ds := ds1) (cs := cs1) (mp := mp1) (n := n1) z1 z2 z3 z4 a1
theorem ph_reached (M : MS) (y : Nat × Int32 × (Nat → Int32) × (Nat → Int32)) : PHI (T_X10_reached M y) = PHI M ∧ PHC (T_X10_reached M y) = PHC M ∧ core (T_X10_reached M y) = core M ∧ arch (T_X10_reached M y) = arch M ∧ tabs (T_X10_reached M y) = (y.2.2.1, y.2.2.2) ∧ (∀ Bd, XL Bd (T_X10_reached M y) = XL Bd M) := by
  obtain ⟨⟨ds, cs, mp, pk, cap, cn, sn, n, tk, av, lo, md⟩, ⟨ds_t, cs_t, mp_t, pk_t, cap_t, cn_t, sn_t, n_t, tk_t, av_t, lo_t, md_t⟩, ⟨ds_s, cs_s, mp_s, pk_s, cap_s, cn_s, sn_s, n_s, tk_s, av_s, lo_s, md_s⟩, ⟨hds, hcs, hmp, hpk, hcap, hcn, hsn, hn, htk, hav, hlo, hmd, hla, hct⟩, wc, wd, sg, ln, pl, ch, nu, wb, capw, wl, wn, isv, lf, kk, kr, kd, kr2, kd2, capE, mc, PP⟩ := M
  exact ⟨rfl, rfl, rfl, rfl, rfl, fun _ => rfl⟩
theorem pr_reached {K1 K2 : CR} {P0 : List PG} {Bd : Nat} {M1 M2 : MS} (h : PR K1 K2 P0 Bd M1 M2) {y1 y2 : Nat × Int32 × (Nat → Int32) × (Nat → Int32)} (w3 : Zf 36 y1.2.2.1) (w4 : Zf 6 y1.2.2.2) (w5 : Zf 36 y2.2.2.1) (w6 : Zf 6 y2.2.2.2) : PR K1 K2 P0 Bd (T_X10_reached M1 y1) (T_X10_reached M2 y2) := by
  obtain ⟨⟨g1, g2, z1, z2, x1, b1⟩, ⟨g3, g4, z3, z4, x2, b2⟩, q, hS⟩ := h
  obtain ⟨_, _, p1, p2, p3, p7⟩ := ph_reached M1 y1
  obtain ⟨_, _, p4, p5, p6, p8⟩ := ph_reached M2 y2
  exact ⟨⟨p1.trans g1, by rw [p2]; exact g2, by rw [p3]; exact w3, by rw [p3]; exact w4, by rw [p7]; exact x1, b1⟩, ⟨p4.trans g3, by rw [p5]; exact g4, by rw [p6]; exact w5, by rw [p6]; exact w6, by rw [p8]; exact x2, b2⟩, q, hS⟩
theorem qa_reached {K1 K2 : CR} {P0 : List PG} {Bd : Nat} {M1 M2 : MS} (h : PR K1 K2 P0 Bd M1 M2) (a1 : Int32) : RQ K1 K2 P0 Bd 1 6 M1 M2 (F_L_reached M1 a1) (F_L_reached M2 a1) := by
  have w := ff_reached h a1
  unfold F_L_reached
  rw [kl_reached, kl_reached]
  generalize FF_X10_reached M1 a1 = y1 at w ⊢
  generalize FF_X10_reached M2 a1 = y2 at w ⊢
  obtain ⟨w1, w2, w3, w4, w5, w6⟩ := w
  rw [w1, w2]
  exact rq_mv (pr_reached h w3 w4 w5 w6) (ph_reached M1 y1).1 (ph_reached M2 y2).1 (ph_reached M1 y1).2.1 (ph_reached M2 y2).2.1 1 6 _
def VW_follow (st : Nat) (v : Int32) : Int32 := (if st = 0 then v else (if st = 2 then (-1001) else (-1002)))
theorem kl_follow (M : MS) (y3 : Nat × Int32 × (Nat → Int32) × (Nat → Int32)) : K_L_follow_3 M y3 = adc 3 18 (VW_follow y3.1 y3.2.1, (T_X10_follow M y3), 0, 0) := by
  unfold K_L_follow_3 VW_follow
  by_cases c0 : y3.1 = 0 <;> by_cases c1 : y3.1 = 2 <;> first | (simp only [c0, c1, if_true, if_false]; done) | (simp [c0, c1]; done)
theorem ff_follow {K1 K2 : CR} {P0 : List PG} {Bd : Nat} {M1 M2 : MS} (h : PR K1 K2 P0 Bd M1 M2) (a1 a2 : Int32) : RWv (FF_X10_follow M1 a1 a2) (FF_X10_follow M2 a1 a2) := by
  have z1 := h.1.2.2.1
  have z2 := h.1.2.2.2.1
  have z3 := h.2.1.2.2.1
  have z4 := h.2.1.2.2.2.1
  have hO := OBM h
  obtain ⟨q1, q2, q3, q4, q5, q6⟩ := EQM h
  obtain ⟨⟨ds1, cs1, mp1, pk1, cap1, cn1, sn1, n1, tk1, av1, lo1, md1⟩, ⟨ds_t1, cs_t1, mp_t1, pk_t1, cap_t1, cn_t1, sn_t1, n_t1, tk_t1, av_t1, lo_t1, md_t1⟩, ⟨ds_s1, cs_s1, mp_s1, pk_s1, cap_s1, cn_s1, sn_s1, n_s1, tk_s1, av_s1, lo_s1, md_s1⟩, ⟨hds1, hcs1, hmp1, hpk1, hcap1, hcn1, hsn1, hn1, htk1, hav1, hlo1, hmd1, hla1, hct1⟩, wc1, wd1, sg1, ln1, pl1, ch1, nu1, wb1, capw1, wl1, wn1, isv1, lf1, kk1, kr1, kd1, kr21, kd21, capE1, mc1, PP1⟩ := M1
  obtain ⟨⟨ds2, cs2, mp2, pk2, cap2, cn2, sn2, n2, tk2, av2, lo2, md2⟩, ⟨ds_t2, cs_t2, mp_t2, pk_t2, cap_t2, cn_t2, sn_t2, n_t2, tk_t2, av_t2, lo_t2, md_t2⟩, ⟨ds_s2, cs_s2, mp_s2, pk_s2, cap_s2, cn_s2, sn_s2, n_s2, tk_s2, av_s2, lo_s2, md_s2⟩, ⟨hds2, hcs2, hmp2, hpk2, hcap2, hcn2, hsn2, hn2, htk2, hav2, hlo2, hmd2, hla2, hct2⟩, wc2, wd2, sg2, ln2, pl2, ch2, nu2, wb2, capw2, wl2, wn2, isv2, lf2, kk2, kr2, kd2, kr22, kd22, capE2, mc2, PP2⟩ := M2
  have r1 : ds1 = ds2 := q1
  have r2 : cs1 = cs2 := q2
  have r3 : mp1 = mp2 := q3
  have r5 : cn1 = cn2 := q5
  have r6 : (sn1, n1, tk1, av1, lo1, md1) = (sn2, n2, tk2, av2, lo2, md2) := q6
  clear q1 q2 q3 q4 q5 q6 h
  simp only [Prod.mk.injEq] at r6
  obtain ⟨r6, r7, r8, r9, r10, r11⟩ := r6
  subst r1 r2 r3 r5 r6 r7 r8 r9 r10 r11
  replace hO : OB PP1 PP2 mp1 pk1 pk2 cn1 := hO
  simp only [FF_X10_follow]
  rw [cg_F_X10_follow hO]
  exact rw_follow (PP := PP1) (ds := ds1) (cs := cs1) (mp := mp1) (n := n1) z1 z2 z3 z4 a1 a2
theorem ph_follow (M : MS) (y : Nat × Int32 × (Nat → Int32) × (Nat → Int32)) : PHI (T_X10_follow M y) = PHI M ∧ PHC (T_X10_follow M y) = PHC M ∧ core (T_X10_follow M y) = core M ∧ arch (T_X10_follow M y) = arch M ∧ tabs (T_X10_follow M y) = (y.2.2.1, y.2.2.2) ∧ (∀ Bd, XL Bd (T_X10_follow M y) = XL Bd M) := by
  obtain ⟨⟨ds, cs, mp, pk, cap, cn, sn, n, tk, av, lo, md⟩, ⟨ds_t, cs_t, mp_t, pk_t, cap_t, cn_t, sn_t, n_t, tk_t, av_t, lo_t, md_t⟩, ⟨ds_s, cs_s, mp_s, pk_s, cap_s, cn_s, sn_s, n_s, tk_s, av_s, lo_s, md_s⟩, ⟨hds, hcs, hmp, hpk, hcap, hcn, hsn, hn, htk, hav, hlo, hmd, hla, hct⟩, wc, wd, sg, ln, pl, ch, nu, wb, capw, wl, wn, isv, lf, kk, kr, kd, kr2, kd2, capE, mc, PP⟩ := M
  exact ⟨rfl, rfl, rfl, rfl, rfl, fun _ => rfl⟩
theorem pr_follow {K1 K2 : CR} {P0 : List PG} {Bd : Nat} {M1 M2 : MS} (h : PR K1 K2 P0 Bd M1 M2) {y1 y2 : Nat × Int32 × (Nat → Int32) × (Nat → Int32)} (w3 : Zf 36 y1.2.2.1) (w4 : Zf 6 y1.2.2.2) (w5 : Zf 36 y2.2.2.1) (w6 : Zf 6 y2.2.2.2) : PR K1 K2 P0 Bd (T_X10_follow M1 y1) (T_X10_follow M2 y2) := by
  obtain ⟨⟨g1, g2, z1, z2, x1, b1⟩, ⟨g3, g4, z3, z4, x2, b2⟩, q, hS⟩ := h
  obtain ⟨_, _, p1, p2, p3, p7⟩ := ph_follow M1 y1
  obtain ⟨_, _, p4, p5, p6, p8⟩ := ph_follow M2 y2
  exact ⟨⟨p1.trans g1, by rw [p2]; exact g2, by rw [p3]; exact w3, by rw [p3]; exact w4, by rw [p7]; exact x1, b1⟩, ⟨p4.trans g3, by rw [p5]; exact g4, by rw [p6]; exact w5, by rw [p6]; exact w6, by rw [p8]; exact x2, b2⟩, q, hS⟩
theorem qa_follow {K1 K2 : CR} {P0 : List PG} {Bd : Nat} {M1 M2 : MS} (h : PR K1 K2 P0 Bd M1 M2) (a1 a2 : Int32) : RQ K1 K2 P0 Bd 3 18 M1 M2 (F_L_follow M1 a1 a2) (F_L_follow M2 a1 a2) := by
  have w := ff_follow h a1 a2
  unfold F_L_follow
  rw [kl_follow, kl_follow]
  generalize FF_X10_follow M1 a1 a2 = y1 at w ⊢
  generalize FF_X10_follow M2 a1 a2 = y2 at w ⊢
  obtain ⟨w1, w2, w3, w4, w5, w6⟩ := w
  rw [w1, w2]
  exact rq_mv (pr_follow h w3 w4 w5 w6) (ph_follow M1 y1).1 (ph_follow M2 y2).1 (ph_follow M1 y1).2.1 (ph_follow M2 y2).2.1 3 18 _
def VW_real (st : Nat) (v : Int32) : Int32 := (if st = 0 then v else (if st = 2 then (-1001) else (-1002)))
theorem kl_real (M : MS) (y3 : Nat × Int32 × (Nat → Int32) × (Nat → Int32)) : K_L_real_3 M y3 = adc 3 18 (VW_real y3.1 y3.2.1, (T_X10_real M y3), 0, 0) := by
  unfold K_L_real_3 VW_real
  by_cases c0 : y3.1 = 0 <;> by_cases c1 : y3.1 = 2 <;> first | (simp only [c0, c1, if_true, if_false]; done) | (simp [c0, c1]; done)
theorem ff_real {K1 K2 : CR} {P0 : List PG} {Bd : Nat} {M1 M2 : MS} (h : PR K1 K2 P0 Bd M1 M2) (a1 a2 : Int32) : RWv (FF_X10_real M1 a1 a2) (FF_X10_real M2 a1 a2) := by
  have z1 := h.1.2.2.1
  have z2 := h.1.2.2.2.1
  have z3 := h.2.1.2.2.1
  have z4 := h.2.1.2.2.2.1
  have hO := OBM h
  obtain ⟨q1, q2, q3, q4, q5, q6⟩ := EQM h
  obtain ⟨⟨ds1, cs1, mp1, pk1, cap1, cn1, sn1, n1, tk1, av1, lo1, md1⟩, ⟨ds_t1, cs_t1, mp_t1, pk_t1, cap_t1, cn_t1, sn_t1, n_t1, tk_t1, av_t1, lo_t1, md_t1⟩, ⟨ds_s1, cs_s1, mp_s1, pk_s1, cap_s1, cn_s1, sn_s1, n_s1, tk_s1, av_s1, lo_s1, md_s1⟩, ⟨hds1, hcs1, hmp1, hpk1, hcap1, hcn1, hsn1, hn1, htk1, hav1, hlo1, hmd1, hla1, hct1⟩, wc1, wd1, sg1, ln1, pl1, ch1, nu1, wb1, capw1, wl1, wn1, isv1, lf1, kk1, kr1, kd1, kr21, kd21, capE1, mc1, PP1⟩ := M1
  obtain ⟨⟨ds2, cs2, mp2, pk2, cap2, cn2, sn2, n2, tk2, av2, lo2, md2⟩, ⟨ds_t2, cs_t2, mp_t2, pk_t2, cap_t2, cn_t2, sn_t2, n_t2, tk_t2, av_t2, lo_t2, md_t2⟩, ⟨ds_s2, cs_s2, mp_s2, pk_s2, cap_s2, cn_s2, sn_s2, n_s2, tk_s2, av_s2, lo_s2, md_s2⟩, ⟨hds2, hcs2, hmp2, hpk2, hcap2, hcn2, hsn2, hn2, htk2, hav2, hlo2, hmd2, hla2, hct2⟩, wc2, wd2, sg2, ln2, pl2, ch2, nu2, wb2, capw2, wl2, wn2, isv2, lf2, kk2, kr2, kd2, kr22, kd22, capE2, mc2, PP2⟩ := M2
  have r1 : ds1 = ds2 := q1
  have r2 : cs1 = cs2 := q2
  have r3 : mp1 = mp2 := q3
  have r5 : cn1 = cn2 := q5
  have r6 : (sn1, n1, tk1, av1, lo1, md1) = (sn2, n2, tk2, av2, lo2, md2) := q6
  clear q1 q2 q3 q4 q5 q6 h
  simp only [Prod.mk.injEq] at r6
  obtain ⟨r6, r7, r8, r9, r10, r11⟩ := r6
  subst r1 r2 r3 r5 r6 r7 r8 r9 r10 r11
  replace hO : OB PP1 PP2 mp1 pk1 pk2 cn1 := hO
  simp only [FF_X10_real]
  exact rw_real (PP := PP1) (ds := ds1) (cs := cs1) (mp := mp1) (n := n1) z1 z2 z3 z4 a1 a2
theorem ph_real (M : MS) (y : Nat × Int32 × (Nat → Int32) × (Nat → Int32)) : PHI (T_X10_real M y) = PHI M ∧ PHC (T_X10_real M y) = PHC M ∧ core (T_X10_real M y) = core M ∧ arch (T_X10_real M y) = arch M ∧ tabs (T_X10_real M y) = (y.2.2.1, y.2.2.2) ∧ (∀ Bd, XL Bd (T_X10_real M y) = XL Bd M) := by
  obtain ⟨⟨ds, cs, mp, pk, cap, cn, sn, n, tk, av, lo, md⟩, ⟨ds_t, cs_t, mp_t, pk_t, cap_t, cn_t, sn_t, n_t, tk_t, av_t, lo_t, md_t⟩, ⟨ds_s, cs_s, mp_s, pk_s, cap_s, cn_s, sn_s, n_s, tk_s, av_s, lo_s, md_s⟩, ⟨hds, hcs, hmp, hpk, hcap, hcn, hsn, hn, htk, hav, hlo, hmd, hla, hct⟩, wc, wd, sg, ln, pl, ch, nu, wb, capw, wl, wn, isv, lf, kk, kr, kd, kr2, kd2, capE, mc, PP⟩ := M
  exact ⟨rfl, rfl, rfl, rfl, rfl, fun _ => rfl⟩
theorem pr_real {K1 K2 : CR} {P0 : List PG} {Bd : Nat} {M1 M2 : MS} (h : PR K1 K2 P0 Bd M1 M2) {y1 y2 : Nat × Int32 × (Nat → Int32) × (Nat → Int32)} (w3 : Zf 36 y1.2.2.1) (w4 : Zf 6 y1.2.2.2) (w5 : Zf 36 y2.2.2.1) (w6 : Zf 6 y2.2.2.2) : PR K1 K2 P0 Bd (T_X10_real M1 y1) (T_X10_real M2 y2) := by
  obtain ⟨⟨g1, g2, z1, z2, x1, b1⟩, ⟨g3, g4, z3, z4, x2, b2⟩, q, hS⟩ := h
  obtain ⟨_, _, p1, p2, p3, p7⟩ := ph_real M1 y1
  obtain ⟨_, _, p4, p5, p6, p8⟩ := ph_real M2 y2
  exact ⟨⟨p1.trans g1, by rw [p2]; exact g2, by rw [p3]; exact w3, by rw [p3]; exact w4, by rw [p7]; exact x1, b1⟩, ⟨p4.trans g3, by rw [p5]; exact g4, by rw [p6]; exact w5, by rw [p6]; exact w6, by rw [p8]; exact x2, b2⟩, q, hS⟩
theorem qa_real {K1 K2 : CR} {P0 : List PG} {Bd : Nat} {M1 M2 : MS} (h : PR K1 K2 P0 Bd M1 M2) (a1 a2 : Int32) : RQ K1 K2 P0 Bd 3 18 M1 M2 (F_L_real M1 a1 a2) (F_L_real M2 a1 a2) := by
  have w := ff_real h a1 a2
  unfold F_L_real
  rw [kl_real, kl_real]
  generalize FF_X10_real M1 a1 a2 = y1 at w ⊢
  generalize FF_X10_real M2 a1 a2 = y2 at w ⊢
  obtain ⟨w1, w2, w3, w4, w5, w6⟩ := w
  rw [w1, w2]
  exact rq_mv (pr_real h w3 w4 w5 w6) (ph_real M1 y1).1 (ph_real M2 y2).1 (ph_real M1 y1).2.1 (ph_real M2 y2).2.1 3 18 _
def VW_right (st : Nat) (v : Int32) : Int32 := (if st = 0 then (if v = 0 then 0 else 1) else (-1001))
theorem kl_right (M : MS) (y2 : Nat × Int32 × (Nat → Int32) × (Nat → Int32)) : K_L_right_2 M y2 = adc 2 12 (VW_right y2.1 y2.2.1, (T_X10_isRight M y2), 0, 0) := by
  unfold K_L_right_2 VW_right
  by_cases c0 : y2.1 = 0 <;> by_cases c1 : y2.2.1 = 0 <;> first | (simp only [c0, c1, if_true, if_false]; done) | (simp [c0, c1]; done)
theorem ff_right {K1 K2 : CR} {P0 : List PG} {Bd : Nat} {M1 M2 : MS} (h : PR K1 K2 P0 Bd M1 M2) (a1 : Int32) : RWv (FF_X10_isRight M1 a1) (FF_X10_isRight M2 a1) := by
  have z1 := h.1.2.2.1
  have z2 := h.1.2.2.2.1
  have z3 := h.2.1.2.2.1
  have z4 := h.2.1.2.2.2.1
  have hO := OBM h
  obtain ⟨q1, q2, q3, q4, q5, q6⟩ := EQM h
  obtain ⟨⟨ds1, cs1, mp1, pk1, cap1, cn1, sn1, n1, tk1, av1, lo1, md1⟩, ⟨ds_t1, cs_t1, mp_t1, pk_t1, cap_t1, cn_t1, sn_t1, n_t1, tk_t1, av_t1, lo_t1, md_t1⟩, ⟨ds_s1, cs_s1, mp_s1, pk_s1, cap_s1, cn_s1, sn_s1, n_s1, tk_s1, av_s1, lo_s1, md_s1⟩, ⟨hds1, hcs1, hmp1, hpk1, hcap1, hcn1, hsn1, hn1, htk1, hav1, hlo1, hmd1, hla1, hct1⟩, wc1, wd1, sg1, ln1, pl1, ch1, nu1, wb1, capw1, wl1, wn1, isv1, lf1, kk1, kr1, kd1, kr21, kd21, capE1, mc1, PP1⟩ := M1
  obtain ⟨⟨ds2, cs2, mp2, pk2, cap2, cn2, sn2, n2, tk2, av2, lo2, md2⟩, ⟨ds_t2, cs_t2, mp_t2, pk_t2, cap_t2, cn_t2, sn_t2, n_t2, tk_t2, av_t2, lo_t2, md_t2⟩, ⟨ds_s2, cs_s2, mp_s2, pk_s2, cap_s2, cn_s2, sn_s2, n_s2, tk_s2, av_s2, lo_s2, md_s2⟩, ⟨hds2, hcs2, hmp2, hpk2, hcap2, hcn2, hsn2, hn2, htk2, hav2, hlo2, hmd2, hla2, hct2⟩, wc2, wd2, sg2, ln2, pl2, ch2, nu2, wb2, capw2, wl2, wn2, isv2, lf2, kk2, kr2, kd2, kr22, kd22, capE2, mc2, PP2⟩ := M2
  have r1 : ds1 = ds2 := q1
  have r2 : cs1 = cs2 := q2
  have r3 : mp1 = mp2 := q3
  have r5 : cn1 = cn2 := q5
  have r6 : (sn1, n1, tk1, av1, lo1, md1) = (sn2, n2, tk2, av2, lo2, md2) := q6
  clear q1 q2 q3 q4 q5 q6 h
  simp only [Prod.mk.injEq] at r6
  obtain ⟨r6, r7, r8, r9, r10, r11⟩ := r6
  subst r1 r2 r3 r5 r6 r7 r8 r9 r10 r11
  replace hO : OB PP1 PP2 mp1 pk1 pk2 cn1 := hO
  simp only [FF_X10_isRight]
  rw [cg_F_X10_isRight hO]
  exact rw_isRight (PP := PP1) (ds := ds1) (cs := cs1) (mp := mp1) (n := n1) z1 z2 z3 z4 a1
theorem ph_right (M : MS) (y : Nat × Int32 × (Nat → Int32) × (Nat → Int32)) : PHI (T_X10_isRight M y) = PHI M ∧ PHC (T_X10_isRight M y) = PHC M ∧ core (T_X10_isRight M y) = core M ∧ arch (T_X10_isRight M y) = arch M ∧ tabs (T_X10_isRight M y) = (y.2.2.1, y.2.2.2) ∧ (∀ Bd, XL Bd (T_X10_isRight M y) = XL Bd M) := by
  obtain ⟨⟨ds, cs, mp, pk, cap, cn, sn, n, tk, av, lo, md⟩, ⟨ds_t, cs_t, mp_t, pk_t, cap_t, cn_t, sn_t, n_t, tk_t, av_t, lo_t, md_t⟩, ⟨ds_s, cs_s, mp_s, pk_s, cap_s, cn_s, sn_s, n_s, tk_s, av_s, lo_s, md_s⟩, ⟨hds, hcs, hmp, hpk, hcap, hcn, hsn, hn, htk, hav, hlo, hmd, hla, hct⟩, wc, wd, sg, ln, pl, ch, nu, wb, capw, wl, wn, isv, lf, kk, kr, kd, kr2, kd2, capE, mc, PP⟩ := M
  exact ⟨rfl, rfl, rfl, rfl, rfl, fun _ => rfl⟩
theorem pr_right {K1 K2 : CR} {P0 : List PG} {Bd : Nat} {M1 M2 : MS} (h : PR K1 K2 P0 Bd M1 M2) {y1 y2 : Nat × Int32 × (Nat → Int32) × (Nat → Int32)} (w3 : Zf 36 y1.2.2.1) (w4 : Zf 6 y1.2.2.2) (w5 : Zf 36 y2.2.2.1) (w6 : Zf 6 y2.2.2.2) : PR K1 K2 P0 Bd (T_X10_isRight M1 y1) (T_X10_isRight M2 y2) := by
  obtain ⟨⟨g1, g2, z1, z2, x1, b1⟩, ⟨g3, g4, z3, z4, x2, b2⟩, q, hS⟩ := h
  obtain ⟨_, _, p1, p2, p3, p7⟩ := ph_right M1 y1
  obtain ⟨_, _, p4, p5, p6, p8⟩ := ph_right M2 y2
  exact ⟨⟨p1.trans g1, by rw [p2]; exact g2, by rw [p3]; exact w3, by rw [p3]; exact w4, by rw [p7]; exact x1, b1⟩, ⟨p4.trans g3, by rw [p5]; exact g4, by rw [p6]; exact w5, by rw [p6]; exact w6, by rw [p8]; exact x2, b2⟩, q, hS⟩
theorem qa_right {K1 K2 : CR} {P0 : List PG} {Bd : Nat} {M1 M2 : MS} (h : PR K1 K2 P0 Bd M1 M2) (a1 : Int32) : RQ K1 K2 P0 Bd 2 12 M1 M2 (F_L_right M1 a1) (F_L_right M2 a1) := by
  have w := ff_right h a1
  unfold F_L_right
  rw [kl_right, kl_right]
  generalize FF_X10_isRight M1 a1 = y1 at w ⊢
  generalize FF_X10_isRight M2 a1 = y2 at w ⊢
  obtain ⟨w1, w2, w3, w4, w5, w6⟩ := w
  rw [w1, w2]
  exact rq_mv (pr_right h w3 w4 w5 w6) (ph_right M1 y1).1 (ph_right M2 y2).1 (ph_right M1 y1).2.1 (ph_right M2 y2).2.1 2 12 _
