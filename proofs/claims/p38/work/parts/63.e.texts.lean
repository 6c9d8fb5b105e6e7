/-! THE CONSTANT TEXTS -/
theorem cmd_three {r d T Bd : Nat} {stk : List SV} {sv : Option SV} {M : MS} (h : OKS 32 r d T Bd stk sv M) (hr : r + 3 ≤ 32) (hd : d ≤ 90000) (hT : T + 400 < 500000) (hB : Bd ≤ 860000) {sg9 : Nat → Int32} {n9 : Nat} (hn9 : n9 ≤ 60) (pl9 : Int32) (ch9 : Nat) (nu9 : Nat → Int32) (lf9 : Int32) {q q2 : Nat} {a1 b1 c1 a2 b2 c2 a3 b3 c3 : Int32} (hR1 : RDC sg9 n9 0 5 a1 b1 c1 q) (hq : q < n9) (hR2 : RDC sg9 n9 (q + 1) 5 a2 b2 c2 q2) (hq2 : q2 < n9) (hR3 : RDC sg9 n9 (q2 + 1) 5 a3 b3 c3 n9) (hk : F_X3_countCommands sg9 (nI n9) = nI 3) (ha1 : a1.toInt ≤ 9) (ha2 : a2.toInt ≤ 9) (ha3 : a3.toInt ≤ 9) (g1 : (F_X8_against_ad5 a1).1 = 0) (g2 : (F_X8_against_ad5 a2).1 = 0) {x y : Int32} (g3 : F_X8_against_ad5 a3 = (1, x, y)) :
    OQ 60 400 (setT M sg9 (nI n9) pl9 ch9 nu9 lf9) (F_L_commands (setT M sg9 (nI n9) pl9 ch9 nu9 lf9)) (fun v N' => v = -1002 ∧ (∃ Q, arch N' = arch M ++ Q) ∧ (∃ X, N' = setK2 X 8 (nI 2) x y) ∧ FF_X10_faultPosition N' = -1 ∧ OKS 32 r d T (Bd + 162) stk sv N' ∧ N'.1 = M.1) := by
  obtain ⟨⟨ds, cs, mp, pk, cap, cn, sn, n, tk, av, lo, md⟩, ⟨ds_t, cs_t, mp_t, pk_t, cap_t, cn_t, sn_t, n_t, tk_t, av_t, lo_t, md_t⟩, ⟨ds_s, cs_s, mp_s, pk_s, cap_s, cn_s, sn_s, n_s, tk_s, av_s, lo_s, md_s⟩, ⟨hds, hcs, hmp, hpk, hcap, hcn, hsn, hn, htk, hav, hlo, hmd, hla, hct⟩, wc, wd, sg, ln, pl, ch, nu, wb, capw, wl, wn, isv, lf, kk, kr, kd, kr2, kd2, capE, mc, PP⟩ := M
  have h9 := h
  obtain ⟨hG, hPl, ⟨t1, t2, t3, t4, t5⟩, hSa, hSv, hRg, w1, w2, w3, w4, w5⟩ := h9
  obtain ⟨z1, z2, z3, z4, z5, N9, hN, en⟩ := gv_z hG (show r ≤ 32 by omega) (by omega) (by omega)
  have hBR : BR 32 = 72420 := BB34
  replace t4 : 64 ≤ cap_t := t4
  replace t5 : cap_t ≤ 4 * BR 32 + 12 := t5
  obtain ⟨cap1, pk1, c9, s9, ec, q1, qq2, q3, q4⟩ := copy_spec (ds := ds_t) (cs := cs_t) (mp := mp_t) pk_t (cap := cap_t) (ds2 := ds) (cs2 := cs) (mp2 := mp) pk (cn2 := cn) sn n tk av lo md t1 t2 t3 z1 z2 z3 z4 (by omega) t4 (by omega)
  obtain ⟨x1, x2, x3⟩ := q4
  have hG1 : GV 32 r d T capE PP ds cs mp pk1 cap1 cn n tk := ⟨GSS.eqn (S := (ds, cs, mp, pk, cap, cn, sn, n, tk, av, lo, md)) (U := (ds, cs, mp, pk1, cap1, cn, sn, n, tk, av, lo, md)) hG.1 ⟨rfl, rfl, rfl, q1, rfl, rfl⟩, qq2, hG.2.2.1, by omega⟩
  obtain ⟨nu1, pl1, chx, hf⟩ := ff_three hn9 hR1 hq hR2 hq2 hR3 ch9 nu9
  have et0 : F_X10_tryCommands capE PP mc sg9 (nI n9) chx nu1 ds cs mp pk1 cap1 cn sn n tk av lo md (nI 3) = K_X10_tryCommands_9 (L_X10_tryCommands_9 sg9 (nI n9) (nI 3) (1 + 1 + 1 + 1) (nI 0) mc (nI 0) cn sn n tk av lo md chx capE cap1 nu1 ds cs mp pk1 PP 0 0) := by
    unfold F_X10_tryCommands
    rw [show (((nI 3 : Int32).toInt - (0 : Int32).toInt).toNat + 1) = 1 + 1 + 1 + 1 from by decide]
    rfl
  show OQ 60 400 ((ds, cs, mp, pk, cap, cn, sn, n, tk, av, lo, md), (ds_t, cs_t, mp_t, pk_t, cap_t, cn_t, sn_t, n_t, tk_t, av_t, lo_t, md_t), (ds_s, cs_s, mp_s, pk_s, cap_s, cn_s, sn_s, n_s, tk_s, av_s, lo_s, md_s), (hds, hcs, hmp, hpk, hcap, hcn, hsn, hn, htk, hav, hlo, hmd, hla, hct), wc, wd, sg9, nI n9, pl9, ch9, nu9, wb, capw, wl, wn, isv, lf9, kk, kr, kd, kr2, kd2, capE, mc, PP) (F_L_commands ((ds, cs, mp, pk, cap, cn, sn, n, tk, av, lo, md), (ds_t, cs_t, mp_t, pk_t, cap_t, cn_t, sn_t, n_t, tk_t, av_t, lo_t, md_t), (ds_s, cs_s, mp_s, pk_s, cap_s, cn_s, sn_s, n_s, tk_s, av_s, lo_s, md_s), (hds, hcs, hmp, hpk, hcap, hcn, hsn, hn, htk, hav, hlo, hmd, hla, hct), wc, wd, sg9, nI n9, pl9, ch9, nu9, wb, capw, wl, wn, isv, lf9, kk, kr, kd, kr2, kd2, capE, mc, PP)) _
  have agc : ∀ (cs : Nat → Int32) (n a b c : Int32), AGC 5 cs n a b c = F_X8_against_ad5 a := fun cs n a b c => by
    unfold AGC
    rw [if_neg (by decide), if_neg (by decide)]
  rcases try_step hG1 (by omega) (by omega) (by omega) (by omega) (by omega) hR1 (Or.inr (Or.inr rfl)) ha1 (len := 3) (idx := 0) (by omega) (by omega) (by omega) (1 + 1 + 1) chx nu1 0 0 with ⟨x', y', nu', C, S, hag, e1, hC, hS⟩ | ⟨hag, nu', capE', mc', cs', mp', cap', pk', cn', sn', tk', av', lo', md', PP', C, S, c8, s8, e1, gg1, ⟨Q1, qa, qb⟩, ⟨v1, v2, v3, v4, v5⟩, hC, hS⟩
  · rw [agc] at hag
    rw [hag] at g1
    cases g1
  · have hl1 : PP'.length = PP.length + Q1.length := by rw [qa, List.length_append]
    rcases try_step gg1 (by omega) (by omega) (by omega) (by omega) (by omega) hR2 (Or.inr (Or.inr rfl)) ha2 (len := 3) (idx := 0 + 1) (by omega) (by omega) (by omega) (1 + 1) 5 nu' C S with ⟨x', y', nu2, C2, S2, hag2, e2, hC2, hS2⟩ | ⟨hag2, nu2, capE2, mc2, cs2, mp2, cap2, pk2, cn2, sn2, tk2, av2, lo2, md2, PP2, C2, S2, c7, s7, e2, gg2, ⟨Q2, qc, qd⟩, ⟨y1, y2, y3, y4, y5⟩, hC2, hS2⟩
    · rw [agc] at hag2
      rw [hag2] at g2
      cases g2
    · have hl2 : PP2.length = PP'.length + Q2.length := by rw [qc, List.length_append]
      have qe : PP2 = PP ++ (Q1 ++ Q2) := by rw [qc, qa, List.append_assoc]
      rcases try_step gg2 (by omega) (by omega) (by omega) (by omega) (by omega) hR3 (Or.inr (Or.inr rfl)) ha3 (len := 3) (idx := 0 + 1 + 1) (by omega) (by omega) (by omega) 1 5 nu2 C2 S2 with ⟨x', y', nu3, C3, S3, hag3, e3, hC3, hS3⟩ | ⟨hag3, _⟩
      · rw [agc, g3] at hag3
        cases hag3
        obtain ⟨C9, S9, e9, hC9, hS9⟩ : ∃ C9 S9, F_L_commands ((ds, cs, mp, pk, cap, cn, sn, n, tk, av, lo, md), (ds_t, cs_t, mp_t, pk_t, cap_t, cn_t, sn_t, n_t, tk_t, av_t, lo_t, md_t), (ds_s, cs_s, mp_s, pk_s, cap_s, cn_s, sn_s, n_s, tk_s, av_s, lo_s, md_s), (hds, hcs, hmp, hpk, hcap, hcn, hsn, hn, htk, hav, hlo, hmd, hla, hct), wc, wd, sg9, nI n9, pl9, ch9, nu9, wb, capw, wl, wn, isv, lf9, kk, kr, kd, kr2, kd2, capE, mc, PP) = (-1002, ((ds, cs, mp, pk, cap, cn, sn, n, tk, av, lo, md), (ds, cs2, mp2, pk2, cap2, cn2, sn2, n, tk2, av2, lo2, md2), (ds_s, cs_s, mp_s, pk_s, cap_s, cn_s, sn_s, n_s, tk_s, av_s, lo_s, md_s), (hds, hcs, hmp, hpk, hcap, hcn, hsn, hn, htk, hav, hlo, hmd, hla, hct), wc, wd, sg9, 0, nI n9, 5, nu3, wb, capw, wl, wn, isv, -1, 2, 8, nI 2, x, y, capE2, mc2, PP2), C9, S9) ∧ C9 ≤ c9 + C3 + 4 ∧ S9 ≤ s9 + S3 + 24 := cmd_ref_eq hf hk ec (et0.trans (e1.trans (e2.trans e3)))
        rw [e9]
        refine ⟨⟨rfl, ⟨Q1 ++ Q2, qe⟩, ⟨((ds, cs, mp, pk, cap, cn, sn, n, tk, av, lo, md), (ds, cs2, mp2, pk2, cap2, cn2, sn2, n, tk2, av2, lo2, md2), (ds_s, cs_s, mp_s, pk_s, cap_s, cn_s, sn_s, n_s, tk_s, av_s, lo_s, md_s), (hds, hcs, hmp, hpk, hcap, hcn, hsn, hn, htk, hav, hlo, hmd, hla, hct), wc, wd, sg9, 0, nI n9, 5, nu3, wb, capw, wl, wn, isv, -1, 2, 8, nI 2, x, y, capE2, mc2, PP2), Eq.refl _⟩, Eq.refl _, OKS.tried _ _ _ _ _ _ _ _ _ _ h gg2.2.2.1 ⟨Q1 ++ Q2, qe⟩ (by omega) (by omega) (GV.slt gg2 (by omega) (by omega) (by omega) _ _ _ _), Eq.refl _⟩, ?_, ?_⟩
        · show S9 + (2 * (cap + cap_t + cap_s + hsum hcap) + 2 * capw + 4 * capE + 10 * PP.length) ≤ 400 + (2 * (cap + cap2 + cap_s + hsum hcap) + 2 * capw + 4 * capE2 + 10 * PP2.length)
          omega
        · show 320 * C9 + (5 * (cap + cap_t + cap_s + hsum hcap) + 320 * capw + 64 * capE + 640 * PP.length) ≤ 320 * 60 + (5 * (cap + cap2 + cap_s + hsum hcap) + 320 * capw + 64 * capE2 + 640 * PP2.length)
          omega
      · rw [agc, g3] at hag3
        cases hag3
theorem nd59 {d : Nat} (hd : d ≤ 9) : ¬ nI (48 + d) = 59 := by
  have key : ∀ i : Fin 10, ¬ nI (48 + i.val) = 59 := by decide +kernel
  exact key ⟨d, by omega⟩
theorem ends_n {sg : Nat → Int32} {n : Nat} : ends sg n n := ⟨Nat.le_refl _, fun h => absurd h (Nat.lt_irrefl _)⟩
theorem ends_s {sg : Nat → Int32} {n p : Nat} (h : p < n) (e : sg p = 59) : ends sg n p := ⟨by omega, fun _ => e⟩
def tx_q : Nat → Int32 := fun j => ([113] : List Int32).getD j 0
def tx_t : Nat → Int32 := fun j => ([116, 49, 59, 116, 50, 59, 116, 48] : List Int32).getD j 0
def tx_c : Nat → Int32 := fun j => ([116, 51, 59, 99, 48, 57, 61, 49] : List Int32).getD j 0
theorem oq_reads5 {r d T Bd : Nat} {stk : List SV} {sv : Option SV} {M : MS} (h : OKS 32 r d T Bd stk sv M) : OQ 10 60 M (F_L_reads_5 M) (fun v N => v = -1001 ∧ FF_X10_faultPosition N = 0 ∧ OKS 32 r d T Bd stk sv N ∧ N.1 = M.1 ∧ arch N = arch M) := by
  unfold F_L_reads_5
  refine OQ.mono (c := 0 + 4 + 1) (s := 0 + 24 + 6) ?_ (by omega) (by omega) (fun _ _ z => z)
  refine OQ.bind (c1 := 1) (s1 := 6) (K := K_L_reads_16) _ kq_L_reads_16 (oq_append (txs_0 h tx_q) (by omega) (c := 113) (by decide)) (fun v N hP => ?_)
  obtain ⟨rfl, sg9, pl9, ch9, nu9, lf9, rfl, hs⟩ := hP
  rw [if_pos (by decide)]
  have h0 : sg9 0 = 113 := hs 0 (by omega)
  have hc : OQ 4 24 (setT M sg9 (nI (0 + 1)) pl9 ch9 nu9 lf9) (F_L_commands (setT M sg9 (nI (0 + 1)) pl9 ch9 nu9 lf9)) (fun v N => v = -1001 ∧ FF_X10_faultPosition N = 0 ∧ OKS 32 r d T Bd stk sv N ∧ N.1 = M.1 ∧ arch N = arch M) := by
    have ho := OKS.setT h sg9 0 ch9 nu9 0
    have hp := setT_phs M sg9 (nI (0 + 1)) pl9 ch9 nu9 lf9
    have hp2 := setT_phs M sg9 0 0 ch9 nu9 0
    have h1 := setT_1 M sg9 0 0 ch9 nu9 0
    obtain ⟨C, S, e, hC, hS⟩ : ∃ C S, F_L_commands (setT M sg9 (nI (0 + 1)) pl9 ch9 nu9 lf9) = (-1001, setT M sg9 0 0 ch9 nu9 0, C, S) ∧ C ≤ 4 ∧ S ≤ 24 := by
      obtain ⟨⟨ds, cs, mp, pk, cap, cn, sn, n, tk, av, lo, md⟩, ⟨ds_t, cs_t, mp_t, pk_t, cap_t, cn_t, sn_t, n_t, tk_t, av_t, lo_t, md_t⟩, ⟨ds_s, cs_s, mp_s, pk_s, cap_s, cn_s, sn_s, n_s, tk_s, av_s, lo_s, md_s⟩, ⟨hds, hcs, hmp, hpk, hcap, hcn, hsn, hn, htk, hav, hlo, hmd, hla, hct⟩, wc, wd, sg, ln, pl, ch, nu, wb, capw, wl, wn, isv, lf, kk, kr, kd, kr2, kd2, capE, mc, PP⟩ := M
      exact cmd_fault_eq (ff_none (sg := sg9) (n := 0 + 1) (by omega) (by omega) (by rw [h0]; decide) ch9 nu9) (by decide)
    refine OQ.eq e ⟨rfl, ?_, ho, h1.1, h1.2⟩ hC hS (hp2.1.trans hp.1.symm) (hp2.2.trans hp.2.symm)
    obtain ⟨⟨ds, cs, mp, pk, cap, cn, sn, n, tk, av, lo, md⟩, ⟨ds_t, cs_t, mp_t, pk_t, cap_t, cn_t, sn_t, n_t, tk_t, av_t, lo_t, md_t⟩, ⟨ds_s, cs_s, mp_s, pk_s, cap_s, cn_s, sn_s, n_s, tk_s, av_s, lo_s, md_s⟩, ⟨hds, hcs, hmp, hpk, hcap, hcn, hsn, hn, htk, hav, hlo, hmd, hla, hct⟩, wc, wd, sg, ln, pl, ch, nu, wb, capw, wl, wn, isv, lf, kk, kr, kd, kr2, kd2, capE, mc, PP⟩ := M
    rfl
  exact OQ.bind (c2 := 0) (s2 := 0) (K := K_L_reads_36) _ kq_L_reads_36 hc (fun v N hP => OQ.ret hP)
theorem oq_reads_6 {r d T Bd : Nat} {stk : List SV} {sv : Option SV} {M : MS} (h : OKS 32 r d T Bd stk sv M) (hr : r + 3 ≤ 32) (hd : d ≤ 90000) (hT : T + 400 < 500000) (hB : Bd ≤ 860000) : OQ 80 500 M (F_L_reads_6 M) (fun v N => v = -1002 ∧ (∃ Q, arch N = arch M ++ Q) ∧ (∃ X, N = setK2 X 8 (nI 2) 1 0) ∧ FF_X10_faultPosition N = -1 ∧ OKS 32 r d T (Bd + 162) stk sv N ∧ N.1 = M.1) := by
  unfold F_L_reads_6
  refine OQ.mono (c := 0 + 60 + 1 + 1 + 1 + 1 + 1 + 1 + 1 + 1) (s := 0 + 400 + 6 + 6 + 6 + 6 + 6 + 6 + 6 + 6) ?_ (by omega) (by omega) (fun _ _ z => z)
  have t0 := txs_0 h tx_t
  refine OQ.bind (c1 := 1) (s1 := 6) (K := K_L_reads_16_8) _ kq_L_reads_16_8 (oq_append t0 (by omega) (c := 116) (by decide)) (fun v N1 hP => ?_)
  obtain ⟨rfl, t1⟩ := hP
  rw [if_pos (by decide)]
  refine OQ.bind (c1 := 1) (s1 := 6) (K := K_L_reads_16_7) _ kq_L_reads_16_7 (oq_append t1 (by omega) (c := 49) (by decide)) (fun v N2 hP => ?_)
  obtain ⟨rfl, t2⟩ := hP
  rw [if_pos (by decide)]
  refine OQ.bind (c1 := 1) (s1 := 6) (K := K_L_reads_16_6) _ kq_L_reads_16_6 (oq_append t2 (by omega) (c := 59) (by decide)) (fun v N3 hP => ?_)
  obtain ⟨rfl, t3⟩ := hP
  rw [if_pos (by decide)]
  refine OQ.bind (c1 := 1) (s1 := 6) (K := K_L_reads_16_5) _ kq_L_reads_16_5 (oq_append t3 (by omega) (c := 116) (by decide)) (fun v N4 hP => ?_)
  obtain ⟨rfl, t4⟩ := hP
  rw [if_pos (by decide)]
  refine OQ.bind (c1 := 1) (s1 := 6) (K := K_L_reads_16_4) _ kq_L_reads_16_4 (oq_append t4 (by omega) (c := 50) (by decide)) (fun v N5 hP => ?_)
  obtain ⟨rfl, t5⟩ := hP
  rw [if_pos (by decide)]
  refine OQ.bind (c1 := 1) (s1 := 6) (K := K_L_reads_16_3) _ kq_L_reads_16_3 (oq_append t5 (by omega) (c := 59) (by decide)) (fun v N6 hP => ?_)
  obtain ⟨rfl, t6⟩ := hP
  rw [if_pos (by decide)]
  refine OQ.bind (c1 := 1) (s1 := 6) (K := K_L_reads_16_2) _ kq_L_reads_16_2 (oq_append t6 (by omega) (c := 116) (by decide)) (fun v N7 hP => ?_)
  obtain ⟨rfl, t7⟩ := hP
  rw [if_pos (by decide)]
  refine OQ.bind (c1 := 1) (s1 := 6) (K := K_L_reads_16_1) _ kq_L_reads_16_1 (oq_append t7 (by omega) (c := 48) (by decide)) (fun v N8 hP => ?_)
  obtain ⟨rfl, t8⟩ := hP
  rw [if_pos (by decide)]
  obtain ⟨sg, pl, ch, nu, lf, rfl, hs⟩ := t8
  have h0 : sg 0 = 116 := hs 0 (by omega)
  have h1 : sg 1 = 49 := hs 1 (by omega)
  have h2 : sg 2 = 59 := hs 2 (by omega)
  have h3 : sg 3 = 116 := hs 3 (by omega)
  have h4 : sg 4 = 50 := hs 4 (by omega)
  have h5 : sg 5 = 59 := hs 5 (by omega)
  have h6 : sg 6 = 116 := hs 6 (by omega)
  have h7 : sg 7 = 48 := hs 7 (by omega)
  have hcn : cnt59 sg 0 8 = 2 := by
    simp only [cnt59, h0, h1, h2, h3, h4, h5, h6, h7]
    decide
  have hc := cmd_three h hr hd hT hB (n9 := 8) (by omega) pl ch nu lf (rdc_t (p := 0) (d := 1) (by omega) h0 (by omega) h1 (ends_s (by omega) h2)) (by omega) (rdc_t (p := 3) (d := 2) (by omega) h3 (by omega) h4 (ends_s (by omega) h5)) (by omega) (rdc_t (p := 6) (d := 0) (by omega) h6 (by omega) h7 ends_n) (count_eq (by omega) hcn) (by decide) (by decide) (by decide) (by rw [ag5_eq]; decide) (by rw [ag5_eq]; decide) (x := 1) (y := 0) (by rw [ag5_eq]; decide)
  exact OQ.bind (c2 := 0) (s2 := 0) (K := K_L_reads_36_1) _ kq_L_reads_36_1 hc (fun v N hP => OQ.ret hP)
theorem oq_reads_7 {r d T Bd : Nat} {stk : List SV} {sv : Option SV} {M : MS} (h : OKS 32 r d T Bd stk sv M) (hr : r + 3 ≤ 32) (hd : d ≤ 90000) (hT : T + 400 < 500000) (hB : Bd ≤ 860000) (hn : 3 ≤ (nS M.1).toInt) : OQ 80 500 M (F_L_reads_7 M) (fun v N => v = -1002 ∧ (∃ Q, arch N = arch M ++ Q) ∧ (∃ X, N = setK2 X 8 (nI 1) 3 9) ∧ FF_X10_faultPosition N = -1 ∧ OKS 32 r d T (Bd + 162) stk sv N ∧ N.1 = M.1) := by
  unfold F_L_reads_7
  refine OQ.mono (c := 0 + 60 + 1 + 1 + 1 + 1 + 1 + 1 + 1 + 1) (s := 0 + 400 + 6 + 6 + 6 + 6 + 6 + 6 + 6 + 6) ?_ (by omega) (by omega) (fun _ _ z => z)
  have t0 := txs_0 h tx_c
  refine OQ.bind (c1 := 1) (s1 := 6) (K := K_L_reads_16_16) _ kq_L_reads_16_16 (oq_append t0 (by omega) (c := 116) (by decide)) (fun v N1 hP => ?_)
  obtain ⟨rfl, t1⟩ := hP
  rw [if_pos (by decide)]
  refine OQ.bind (c1 := 1) (s1 := 6) (K := K_L_reads_16_15) _ kq_L_reads_16_15 (oq_append t1 (by omega) (c := 51) (by decide)) (fun v N2 hP => ?_)
  obtain ⟨rfl, t2⟩ := hP
  rw [if_pos (by decide)]
  refine OQ.bind (c1 := 1) (s1 := 6) (K := K_L_reads_16_14) _ kq_L_reads_16_14 (oq_append t2 (by omega) (c := 59) (by decide)) (fun v N3 hP => ?_)
  obtain ⟨rfl, t3⟩ := hP
  rw [if_pos (by decide)]
  refine OQ.bind (c1 := 1) (s1 := 6) (K := K_L_reads_16_13) _ kq_L_reads_16_13 (oq_append t3 (by omega) (c := 99) (by decide)) (fun v N4 hP => ?_)
  obtain ⟨rfl, t4⟩ := hP
  rw [if_pos (by decide)]
  refine OQ.bind (c1 := 1) (s1 := 6) (K := K_L_reads_16_12) _ kq_L_reads_16_12 (oq_append t4 (by omega) (c := 48) (by decide)) (fun v N5 hP => ?_)
  obtain ⟨rfl, t5⟩ := hP
  rw [if_pos (by decide)]
  refine OQ.bind (c1 := 1) (s1 := 6) (K := K_L_reads_16_11) _ kq_L_reads_16_11 (oq_append t5 (by omega) (c := 57) (by decide)) (fun v N6 hP => ?_)
  obtain ⟨rfl, t6⟩ := hP
  rw [if_pos (by decide)]
  refine OQ.bind (c1 := 1) (s1 := 6) (K := K_L_reads_16_10) _ kq_L_reads_16_10 (oq_append t6 (by omega) (c := 61) (by decide)) (fun v N7 hP => ?_)
  obtain ⟨rfl, t7⟩ := hP
  rw [if_pos (by decide)]
  refine OQ.bind (c1 := 1) (s1 := 6) (K := K_L_reads_16_9) _ kq_L_reads_16_9 (oq_append t7 (by omega) (c := 49) (by decide)) (fun v N8 hP => ?_)
  obtain ⟨rfl, t8⟩ := hP
  rw [if_pos (by decide)]
  obtain ⟨sg, pl, ch, nu, lf, rfl, hs⟩ := t8
  have h0 : sg 0 = 116 := hs 0 (by omega)
  have h1 : sg 1 = 51 := hs 1 (by omega)
  have h2 : sg 2 = 59 := hs 2 (by omega)
  have h3 : sg 3 = 99 := hs 3 (by omega)
  have h4 : sg 4 = 48 := hs 4 (by omega)
  have h5 : sg 5 = 57 := hs 5 (by omega)
  have h6 : sg 6 = 61 := hs 6 (by omega)
  have h7 : sg 7 = 49 := hs 7 (by omega)
  have hcn : cnt59 sg 0 8 = 1 := by
    simp only [cnt59, h0, h1, h2, h3, h4, h5, h6, h7]
    decide
  have hc9 := cmd_two h (by omega) hd hT hB (n9 := 8) (by omega) pl ch nu lf (rdc_t (p := 0) (d := 3) (by omega) h0 (by omega) h1 (ends_s (by omega) h2)) (by omega) (rdc_c (p := 3) (a := 0) (b := 9) (v := 1) (by omega) h3 (by omega) (by omega) (by omega) h4 h5 h6 h7 ends_n) (count_eq (by omega) hcn) (Or.inr (Or.inr rfl)) (Or.inl rfl) (by decide) (by decide)
  obtain ⟨N9, hN9, en⟩ := OKS.nS h
  rw [en] at hc9 hn
  rw [nI_toInt (by omega)] at hn
  have key : ∀ cs', AGC 1 cs' (nI N9) (nI 0) (nI 9) (nI 1) = (1, 3, 9) := fun cs' => by
    unfold AGC
    rw [if_pos rfl, ag1_eq, has_nI (by omega) (by omega), has_nI (by omega) (by omega), show (if 0 < N9 then (1 : Int32) else 0) = 1 from if_pos (by omega), show (if 9 < N9 then (1 : Int32) else 0) = 0 from if_neg (by omega), if_neg (by decide), if_pos rfl]
    rfl
  have hc : OQ 60 400 (setT M sg (nI 8) pl ch nu lf) (F_L_commands (setT M sg (nI 8) pl ch nu lf)) (fun v N => v = -1002 ∧ (∃ Q, arch N = arch M ++ Q) ∧ (∃ X, N = setK2 X 8 (nI 1) 3 9) ∧ FF_X10_faultPosition N = -1 ∧ OKS 32 r d T (Bd + 162) stk sv N ∧ N.1 = M.1) := by
    refine OQ.mono hc9 (Nat.le_refl _) (Nat.le_refl _) (fun v N hP => ?_)
    obtain ⟨p1, ⟨p2, X, idx, x, y, p3, p4, p5, p6, p7⟩ | ⟨p2, p3, cs', p4⟩⟩ := hP
    · rcases p7 with ⟨e1, e2⟩ | ⟨e1, e2, cs', e3⟩
      · unfold AGC at e2
        rw [if_neg (by decide), if_neg (by decide), ag5_eq] at e2
        rw [if_neg (by decide), if_neg (by decide)] at e2
        cases e2
      · rw [key] at e3
        cases e3
        subst e1
        exact ⟨p2, p1, ⟨X, p3⟩, p4, p5, p6⟩
    · rw [key] at p4
      cases p4
  exact OQ.bind (c2 := 0) (s2 := 0) (K := K_L_reads_36_1) _ kq_L_reads_36_1 hc (fun v N hP => OQ.ret hP)
