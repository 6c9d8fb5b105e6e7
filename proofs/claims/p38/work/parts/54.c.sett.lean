/-! settledIn IN TWO STATES -/
theorem qa_settledIn {K1 K2 : CR} {P0 : List PG} {Bd : Nat} {M1 M2 : MS} (h : PR K1 K2 P0 Bd M1 M2) (hBd : Bd + 600 ≤ 900000) : RQ K1 K2 P0 (Bd + 600) 1 6 M1 M2 (F_L_settledIn M1) (F_L_settledIn M2) := by
  obtain ⟨q1, q2, q3, q4, q5, q6⟩ := EQM h
  obtain ⟨⟨rfl, ⟨Q1, g2⟩, z1, z2, x1, b1⟩, ⟨rfl, ⟨Q2, g4⟩, z3, z4, x2, b2⟩, q, hS⟩ := h
  have hS9 := hS
  obtain ⟨M, lt, N, s1, s2, s3, s4, s5, s6, s7, s8⟩ := hS
  have q4 := q4
  obtain ⟨⟨ds1, cs1, mp1, pk1, cap1, cn1, sn1, n1, tk1, av1, lo1, md1⟩, ⟨ds_t1, cs_t1, mp_t1, pk_t1, cap_t1, cn_t1, sn_t1, n_t1, tk_t1, av_t1, lo_t1, md_t1⟩, ⟨ds_s1, cs_s1, mp_s1, pk_s1, cap_s1, cn_s1, sn_s1, n_s1, tk_s1, av_s1, lo_s1, md_s1⟩, ⟨hds1, hcs1, hmp1, hpk1, hcap1, hcn1, hsn1, hn1, htk1, hav1, hlo1, hmd1, hla1, hct1⟩, wc1, wd1, sg1, ln1, pl1, ch1, nu1, wb1, capw1, wl1, wn1, isv1, lf1, kk1, kr1, kd1, kr21, kd21, capE1, mc1, PP1⟩ := M1
  obtain ⟨⟨ds2, cs2, mp2, pk2, cap2, cn2, sn2, n2, tk2, av2, lo2, md2⟩, ⟨ds_t2, cs_t2, mp_t2, pk_t2, cap_t2, cn_t2, sn_t2, n_t2, tk_t2, av_t2, lo_t2, md_t2⟩, ⟨ds_s2, cs_s2, mp_s2, pk_s2, cap_s2, cn_s2, sn_s2, n_s2, tk_s2, av_s2, lo_s2, md_s2⟩, ⟨hds2, hcs2, hmp2, hpk2, hcap2, hcn2, hsn2, hn2, htk2, hav2, hlo2, hmd2, hla2, hct2⟩, wc2, wd2, sg2, ln2, pl2, ch2, nu2, wb2, capw2, wl2, wn2, isv2, lf2, kk2, kr2, kd2, kr22, kd22, capE2, mc2, PP2⟩ := M2
  have r1 : ds1 = ds2 := q1
  have r2 : cs1 = cs2 := q2
  have r3 : mp1 = mp2 := q3
  have r4 : ∀ i, i < ix cn1 → pk1 i = pk2 i := q4
  have r5 : cn1 = cn2 := q5
  have r6 : (sn1, n1, tk1, av1, lo1, md1) = (sn2, n2, tk2, av2, lo2, md2) := q6
  clear q1 q2 q3 q4 q5 q6
  simp only [Prod.mk.injEq] at r6
  obtain ⟨r6, r7, r8, r9, r10, r11⟩ := r6
  replace g2 : PP1 = P0 ++ Q1 := g2
  replace g4 : PP2 = P0 ++ Q2 := g4
  replace s2 : n1 = nI N := s2
  replace s1 : SIM P0 mp1 pk1 cn1 M lt := s1
  replace s6 : Zf 6 ds1 := s6
  replace s7 : Zf 36 cs1 := s7
  replace s4 : CSR_ cs1 := s4
  replace s8 : LB LBB (nbF ds1 cs1 N) (cstF cs1) N 99 tk1 M lt := s8
  subst r1 r2 r3 r5 r6 r7 r8 r9 r10 r11
  subst s2
  obtain ⟨p1, p2, p3, p4, p5, p6, p7, p8, p9, p10⟩ := x1
  obtain ⟨t1, t2, t3, t4, t5, t6, t7, t8, t9, t10⟩ := x2
  have hl1 : PP1.length = P0.length + Q1.length := by rw [g2, List.length_append]
  have hl2 : PP2.length = P0.length + Q2.length := by rw [g4, List.length_append]
  have sA : SIM PP1 mp1 pk1 cn1 M lt := by rw [g2]; exact SIM.app s1 Q1 (by omega)
  have sB : SIM PP2 mp1 pk2 cn1 M lt := by rw [g4]; exact SIM.pk (SIM.app s1 Q2 (by omega)) r4
  have hLB : LBB = 72420 := rfl
  obtain ⟨capE', mc', ds', cs', mp', cap', pk', cn', sn', n', tk', av', lo', md', PP', c, s, c0, s0, e1, k1, k2, k3, k4, k5, k6, k7, ⟨R1, k8, k9⟩, k10, k11, k12, k13, k14⟩ := sett_spec (B := LBB) mc1 sn1 tk1 av1 lo1 md1 pk_t1 cn_t1 sn_t1 n_t1 tk_t1 av_t1 lo_t1 md_t1 s3 s4 (by omega) sA p3 p2 s8 (by omega) p7 p8 p9 s6 s7 p5 (by omega)
  obtain ⟨capE'', mc'', ds'', cs'', mp'', cap'', pk'', cn'', sn'', n'', tk'', av'', lo'', md'', PP'', c2, u2, c02, u02, e2, j1, j2, j3, j4, j5, j6, j7, ⟨R2, j8, j9⟩, j10, j11, j12, j13, j14⟩ := sett_spec (B := LBB) mc2 sn1 tk1 av1 lo1 md1 pk_t2 cn_t2 sn_t2 n_t2 tk_t2 av_t2 lo_t2 md_t2 s3 s4 (by omega) sB t3 t2 s8 (by omega) t7 t8 t9 s6 s7 t5 (by omega)
  have kl : ∀ (M : MS) (st v : _) (x0 : Nat) (x1 : Int32) (x2 x3 x4 : Nat → Int32) (x5 : Nat) (x6 : Nat → Int32) (x7 x8 x9 x10 x11 x12 x13 : Int32) (x14 : List PG) (x15 x16 : Nat), K_L_settledIn_1 M (st, v, x0, x1, x2, x3, x4, x5, x6, x7, x8, x9, x10, x11, x12, x13, x14, x15, x16) = adc x15 x16 ((if st = 0 then v else (-1001)), T_X10_settledIn M (st, v, x0, x1, x2, x3, x4, x5, x6, x7, x8, x9, x10, x11, x12, x13, x14, x15, x16), 0, 0) := fun M st v x0 x1 x2 x3 x4 x5 x6 x7 x8 x9 x10 x11 x12 x13 x14 x15 x16 => by
    unfold K_L_settledIn_1
    by_cases cc : st = 0
    · simp only [cc, if_true]
    · simp only [cc, if_false]
  unfold F_L_settledIn
  simp only [FF_X10_settledIn]
  rw [e1, e2, kl, kl]
  obtain ⟨u1, u2', u3, u4, u5⟩ := k12
  obtain ⟨v1, v2', v3, v4, v5⟩ := j12
  have hR1 : PP'.length = PP1.length + R1.length := by rw [k8, List.length_append]
  have hR2 : PP''.length = PP2.length + R2.length := by rw [j8, List.length_append]
  refine ⟨rfl, ⟨⟨rfl, ⟨Q1 ++ R1, ?_⟩, z1, z2, ⟨?_, k7, k6, ?_, k4, ?_, k1, k2, k3, p10⟩, hBd⟩, ⟨rfl, ⟨Q2 ++ R2, ?_⟩, z3, z4, ⟨?_, j7, j6, ?_, j4, ?_, j1, j2, j3, t10⟩, hBd⟩, q, hS9⟩, ⟨?_, ?_⟩, ⟨?_, ?_⟩⟩
  · show PP' = P0 ++ (Q1 ++ R1)
    rw [k8, g2, List.append_assoc]
  · show PP'.length ≤ Bd + 600
    omega
  · show capE' ≤ 10 + PP'.length + PP'.length / 2
    omega
  · show cap' ≤ 4 * LBB + 12
    omega
  · show PP'' = P0 ++ (Q2 ++ R2)
    rw [j8, g4, List.append_assoc]
  · show PP''.length ≤ Bd + 600
    omega
  · show capE'' ≤ 10 + PP''.length + PP''.length / 2
    omega
  · show cap'' ≤ 4 * LBB + 12
    omega
  · show s + 0 + (2 * capw1 + 2 * cap_t1 + 4 * capE1 + 10 * PP1.length) ≤ 6 + (2 * capw1 + 2 * cap' + 4 * capE' + 10 * PP'.length)
    omega
  · show 320 * (c + 0) + (320 * capw1 + 5 * cap_t1 + 64 * capE1 + 640 * PP1.length) ≤ 320 * 1 + (320 * capw1 + 5 * cap' + 64 * capE' + 640 * PP'.length)
    omega
  · show u2 + 0 + (2 * capw2 + 2 * cap_t2 + 4 * capE2 + 10 * PP2.length) ≤ 6 + (2 * capw2 + 2 * cap'' + 4 * capE'' + 10 * PP''.length)
    omega
  · show 320 * (c2 + 0) + (320 * capw2 + 5 * cap_t2 + 64 * capE2 + 640 * PP2.length) ≤ 320 * 1 + (320 * capw2 + 5 * cap'' + 64 * capE'' + 640 * PP''.length)
    omega
