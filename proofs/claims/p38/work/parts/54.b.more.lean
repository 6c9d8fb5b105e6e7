/-! settledIn, line, character, account IN TWO STATES -/
theorem qa_account {K1 K2 : CR} {P0 : List PG} {Bd : Nat} {M1 M2 : MS} (h : PR K1 K2 P0 Bd M1 M2) {a1 : Int32} (h9 : ¬ a1 = 9) (h10 : ¬ a1 = 10) : RQ K1 K2 P0 Bd 1 6 M1 M2 (F_L_account M1 a1) (F_L_account M2 a1) := by
  have e : FF_X10_account M1 a1 = FF_X10_account M2 a1 := by
    have hO := OBM h
    obtain ⟨q1, q2, q3, q4, q5, q6⟩ := EQM h
    obtain ⟨⟨ds1, cs1, mp1, pk1, cap1, cn1, sn1, n1, tk1, av1, lo1, md1⟩, ⟨ds_t1, cs_t1, mp_t1, pk_t1, cap_t1, cn_t1, sn_t1, n_t1, tk_t1, av_t1, lo_t1, md_t1⟩, ⟨ds_s1, cs_s1, mp_s1, pk_s1, cap_s1, cn_s1, sn_s1, n_s1, tk_s1, av_s1, lo_s1, md_s1⟩, ⟨hds1, hcs1, hmp1, hpk1, hcap1, hcn1, hsn1, hn1, htk1, hav1, hlo1, hmd1, hla1, hct1⟩, wc1, wd1, sg1, ln1, pl1, ch1, nu1, wb1, capw1, wl1, wn1, isv1, lf1, kk1, kr1, kd1, kr21, kd21, capE1, mc1, PP1⟩ := M1
    obtain ⟨⟨ds2, cs2, mp2, pk2, cap2, cn2, sn2, n2, tk2, av2, lo2, md2⟩, ⟨ds_t2, cs_t2, mp_t2, pk_t2, cap_t2, cn_t2, sn_t2, n_t2, tk_t2, av_t2, lo_t2, md_t2⟩, ⟨ds_s2, cs_s2, mp_s2, pk_s2, cap_s2, cn_s2, sn_s2, n_s2, tk_s2, av_s2, lo_s2, md_s2⟩, ⟨hds2, hcs2, hmp2, hpk2, hcap2, hcn2, hsn2, hn2, htk2, hav2, hlo2, hmd2, hla2, hct2⟩, wc2, wd2, sg2, ln2, pl2, ch2, nu2, wb2, capw2, wl2, wn2, isv2, lf2, kk2, kr2, kd2, kr22, kd22, capE2, mc2, PP2⟩ := M2
    have r1 : ds1 = ds2 := q1
    have r2 : cs1 = cs2 := q2
    have r3 : mp1 = mp2 := q3
    have r5 : cn1 = cn2 := q5
    have r6 : (sn1, n1, tk1, av1, lo1, md1) = (sn2, n2, tk2, av2, lo2, md2) := q6
    clear q1 q2 q3 q4 q5 q6 h
    simp only [Prod.mk.injEq] at r6
    obtain ⟨r6, r7, r8, r9, r10, r11⟩ := r6
    subst r1 r2 r3 r5 r6 r7 r8 r9 r10 r11
    replace hO : OB PP1 PP2 mp1 pk1 pk2 cn1 := hO
    simp only [FF_X10_account]
    rw [cg_F_X10_account hO]
    simp only [F_X10_account, if_neg h9, if_neg h10]
  unfold F_L_account
  rw [e]
  generalize FF_X10_account M2 a1 = y
  have k : ∀ M, K_L_account_2 M y = adc 1 6 ((if y.1 = 0 then y.2 else (-1001)), M, 0, 0) := fun M => by
    unfold K_L_account_2
    by_cases c : y.1 = 0
    · simp only [c, if_true]
    · simp only [c, if_false]
  rw [k, k]
  exact rq_pure h 1 6 _
def bufs : MS → Int32 × (Nat → Int32)
  | ((_, _, _, _, _, _, _, _, _, _, _, _), (_, _, _, _, _, _, _, _, _, _, _, _), (_, _, _, _, _, _, _, _, _, _, _, _), (_, _, _, _, _, _, _, _, _, _, _, _, _, _), _, _, _, _, _, _, _, wb, _, _, wn, _, _, _, _, _, _, _, _, _, _) => (wn, wb)
/-- the same text in both -/
def TXR (M1 M2 : MS) (v : Int32) : Prop := ∃ w : Nat, w ≤ 198 ∧ v = nI w ∧ (bufs M1).1 = v ∧ (bufs M2).1 = v ∧ AGw w (bufs M1).2 (bufs M2).2
theorem qa_character {K1 K2 : CR} {P0 : List PG} {Bd : Nat} {M1 M2 : MS} (h : PR K1 K2 P0 Bd M1 M2) {v a1 : Int32} (ht : TXR M1 M2 v) : RQ K1 K2 P0 Bd 1 6 M1 M2 (F_L_character M1 a1) (F_L_character M2 a1) ∧ (F_L_character M1 a1).2.1 = M1 ∧ (F_L_character M2 a1).2.1 = M2 := by
  have e : FF_X10_character M1 a1 = FF_X10_character M2 a1 := by
    obtain ⟨w, w1, w2, w3, w4, w5⟩ := ht
    clear h
    obtain ⟨⟨ds1, cs1, mp1, pk1, cap1, cn1, sn1, n1, tk1, av1, lo1, md1⟩, ⟨ds_t1, cs_t1, mp_t1, pk_t1, cap_t1, cn_t1, sn_t1, n_t1, tk_t1, av_t1, lo_t1, md_t1⟩, ⟨ds_s1, cs_s1, mp_s1, pk_s1, cap_s1, cn_s1, sn_s1, n_s1, tk_s1, av_s1, lo_s1, md_s1⟩, ⟨hds1, hcs1, hmp1, hpk1, hcap1, hcn1, hsn1, hn1, htk1, hav1, hlo1, hmd1, hla1, hct1⟩, wc1, wd1, sg1, ln1, pl1, ch1, nu1, wb1, capw1, wl1, wn1, isv1, lf1, kk1, kr1, kd1, kr21, kd21, capE1, mc1, PP1⟩ := M1
    obtain ⟨⟨ds2, cs2, mp2, pk2, cap2, cn2, sn2, n2, tk2, av2, lo2, md2⟩, ⟨ds_t2, cs_t2, mp_t2, pk_t2, cap_t2, cn_t2, sn_t2, n_t2, tk_t2, av_t2, lo_t2, md_t2⟩, ⟨ds_s2, cs_s2, mp_s2, pk_s2, cap_s2, cn_s2, sn_s2, n_s2, tk_s2, av_s2, lo_s2, md_s2⟩, ⟨hds2, hcs2, hmp2, hpk2, hcap2, hcn2, hsn2, hn2, htk2, hav2, hlo2, hmd2, hla2, hct2⟩, wc2, wd2, sg2, ln2, pl2, ch2, nu2, wb2, capw2, wl2, wn2, isv2, lf2, kk2, kr2, kd2, kr22, kd22, capE2, mc2, PP2⟩ := M2
    have w3 : wn1 = v := w3
    have w4 : wn2 = v := w4
    have w5 : AGw w wb1 wb2 := w5
    simp only [FF_X10_character]
    rw [w3, w4]
    unfold F_X10_character
    rw [show F_J4_length_8abf5 v = v from rfl]
    by_cases c0 : a1 < 0
    · rw [if_pos c0, if_pos c0]
    · rw [if_neg c0, if_neg c0]
      by_cases c1 : a1 < v
      · rw [if_pos c1, if_pos c1]
        unfold F_J4_charAt_5068e F_J5_charAt_5068e
        have d0 := f_nlt c0
        have d1 := f_lt c1
        rw [w2, nI_toInt (by omega)] at d1
        rw [i0] at d0
        rw [w5 (ix a1) (by rw [ix_toNat]; omega)]
      · rw [if_neg c1, if_neg c1]
  unfold F_L_character
  rw [e]
  generalize FF_X10_character M2 a1 = y
  have k : ∀ M, K_L_character_2 M y = adc 1 6 ((if y.1 = 0 then y.2 else (-1001)), M, 0, 0) := fun M => by
    unfold K_L_character_2
    by_cases c : y.1 = 0
    · simp only [c, if_true]
    · simp only [c, if_false]
  rw [k, k]
  exact ⟨rq_pure h 1 6 _, rfl, rfl⟩
theorem PGX3 {PP : List PG} (h : PGX_ PP) (hl : PP.length < 1000000) : ∀ k, (0 ≤ (pgd PP k).1.toInt ∧ (pgd PP k).1.toInt < 6) ∧ (0 ≤ (pgd PP k).2.1.toInt ∧ (pgd PP k).2.1.toInt < 1000000) ∧ CSR_ (pgd PP k).2.2.2 := fun k => ⟨(h k).1, ⟨(h k).2.1.1, by have := (h k).2.1.2; omega⟩, (h k).2.2⟩
theorem qa_line {K1 K2 : CR} {P0 : List PG} {Bd : Nat} {M1 M2 : MS} (h : PR K1 K2 P0 Bd M1 M2) (a1 : Int32) (hs : F_X10_needSurveyor M1.1.2.2.2.2.2.2.2.1 a1 = 0) : RQ K1 K2 P0 Bd 1 6 M1 M2 (F_L_line M1 a1) (F_L_line M2 a1) ∧ TXR (F_L_line M1 a1).2.1 (F_L_line M2 a1).2.1 (F_L_line M1 a1).1 := by
  have hO := OBM h
  obtain ⟨q1, q2, q3, q4, q5, q6⟩ := EQM h
  obtain ⟨⟨rfl, g2, z1, z2, x1, b1⟩, ⟨rfl, g4, z3, z4, x2, b2⟩, q, hS⟩ := h
  have hS9 := hS
  obtain ⟨M, lt, N, s1, s2, s3, s4⟩ := hS
  obtain ⟨⟨ds1, cs1, mp1, pk1, cap1, cn1, sn1, n1, tk1, av1, lo1, md1⟩, ⟨ds_t1, cs_t1, mp_t1, pk_t1, cap_t1, cn_t1, sn_t1, n_t1, tk_t1, av_t1, lo_t1, md_t1⟩, ⟨ds_s1, cs_s1, mp_s1, pk_s1, cap_s1, cn_s1, sn_s1, n_s1, tk_s1, av_s1, lo_s1, md_s1⟩, ⟨hds1, hcs1, hmp1, hpk1, hcap1, hcn1, hsn1, hn1, htk1, hav1, hlo1, hmd1, hla1, hct1⟩, wc1, wd1, sg1, ln1, pl1, ch1, nu1, wb1, capw1, wl1, wn1, isv1, lf1, kk1, kr1, kd1, kr21, kd21, capE1, mc1, PP1⟩ := M1
  obtain ⟨⟨ds2, cs2, mp2, pk2, cap2, cn2, sn2, n2, tk2, av2, lo2, md2⟩, ⟨ds_t2, cs_t2, mp_t2, pk_t2, cap_t2, cn_t2, sn_t2, n_t2, tk_t2, av_t2, lo_t2, md_t2⟩, ⟨ds_s2, cs_s2, mp_s2, pk_s2, cap_s2, cn_s2, sn_s2, n_s2, tk_s2, av_s2, lo_s2, md_s2⟩, ⟨hds2, hcs2, hmp2, hpk2, hcap2, hcn2, hsn2, hn2, htk2, hav2, hlo2, hmd2, hla2, hct2⟩, wc2, wd2, sg2, ln2, pl2, ch2, nu2, wb2, capw2, wl2, wn2, isv2, lf2, kk2, kr2, kd2, kr22, kd22, capE2, mc2, PP2⟩ := M2
  have r1 : ds1 = ds2 := q1
  have r2 : cs1 = cs2 := q2
  have r3 : mp1 = mp2 := q3
  have r5 : cn1 = cn2 := q5
  have r6 : (sn1, n1, tk1, av1, lo1, md1) = (sn2, n2, tk2, av2, lo2, md2) := q6
  clear q1 q2 q3 q4 q5 q6
  simp only [Prod.mk.injEq] at r6
  obtain ⟨r6, r7, r8, r9, r10, r11⟩ := r6
  subst r1 r2 r3 r5 r6 r7 r8 r9 r10 r11
  replace hO : OB PP1 PP2 mp1 pk1 pk2 cn1 := hO
  have s2 : n1 = nI N := s2
  subst s2
  have hs : F_X10_needSurveyor (nI N) a1 = 0 := hs
  obtain ⟨p1, p2, p3, p4, p5, p6, p7, p8, p9, p10⟩ := x1
  obtain ⟨r1, r2, r3, r4, r5, r6, r7, r8, r9, r10⟩ := x2
  obtain ⟨w, c1', wb1', l1, m1, t1, c2', wb2', l2, m2, t2, e1, e2, k1, k2, k3, k4⟩ := line_spec (PP := PP1) (mp := mp1) (n := N) a1 s3 (PGX3 p2 (by omega)) (wb1 := wb1) (wb2 := wb2) (c1 := capw1) (c2 := capw2) (wl1 := wl1) (wl2 := wl2) (wn1 := wn1) (wn2 := wn2) (by omega) (by omega) hs
  unfold F_L_line
  simp only [FF_X10_line]
  rw [cg_F_X10_line hO, e1, e2]
  unfold K_L_line_2
  simp only [if_true]
  obtain ⟨u1, u2, u3, u4, u5⟩ := k3
  obtain ⟨v1, v2, v3, v4, v5⟩ := k4
  refine ⟨⟨rfl, ⟨⟨rfl, g2, z1, z2, ⟨p1, p2, p3, p4, p5, p6, p7, p8, p9, by show c1' ≤ 500; omega, by show (nI w).toInt ≤ 198; rw [nI_toInt (by omega)]; omega⟩, b1⟩, ⟨rfl, g4, z3, z4, ⟨r1, r2, r3, r4, r5, r6, r7, r8, r9, by show c2' ≤ 500; omega, by show (nI w).toInt ≤ 198; rw [nI_toInt (by omega)]; omega⟩, b2⟩, q, hS9⟩, ⟨?_, ?_⟩, ⟨?_, ?_⟩⟩, ⟨w, k1, rfl, rfl, rfl, k2.1⟩⟩
  · show 6 + t1 + 0 + (2 * capw1 + 2 * cap_t1 + 4 * capE1 + 10 * PP1.length) ≤ 6 + (2 * c1' + 2 * cap_t1 + 4 * capE1 + 10 * PP1.length)
    omega
  · show 320 * (1 + m1 + 0) + (320 * capw1 + 5 * cap_t1 + 64 * capE1 + 640 * PP1.length) ≤ 320 * 1 + (320 * c1' + 5 * cap_t1 + 64 * capE1 + 640 * PP1.length)
    omega
  · show 6 + t2 + 0 + (2 * capw2 + 2 * cap_t2 + 4 * capE2 + 10 * PP2.length) ≤ 6 + (2 * c2' + 2 * cap_t2 + 4 * capE2 + 10 * PP2.length)
    omega
  · show 320 * (1 + m2 + 0) + (320 * capw2 + 5 * cap_t2 + 64 * capE2 + 640 * PP2.length) ≤ 320 * 1 + (320 * c2' + 5 * cap_t2 + 64 * capE2 + 640 * PP2.length)
    omega
