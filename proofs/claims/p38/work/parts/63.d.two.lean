/-! A TEXT OF TWO COMMANDS -/
def cnt59 (sg : Nat → Int32) : Nat → Nat → Nat
  | _, 0 => 0
  | i, m + 1 => (if sg i = 59 then 1 else 0) + cnt59 sg (i + 1) m
theorem cnt_le59 (sg : Nat → Int32) : ∀ (m i : Nat), cnt59 sg i m ≤ m
  | 0, _ => Nat.le_refl _
  | m + 1, i => by
    have := cnt_le59 sg m (i + 1)
    show (if sg i = 59 then 1 else 0) + cnt59 sg (i + 1) m ≤ m + 1
    split <;> omega
theorem count_loop {sg : Nat → Int32} {n : Nat} (hn : n ≤ 60) : ∀ (m c i : Nat), i + m = n → c ≤ i + 1 → K_X3_countCommands_4 (L_X3_countCommands_4 sg (nI n) (m + 1) (nI c) (nI i)) = nI (c + cnt59 sg i m) := by
  intro m
  induction m with
  | zero =>
    intro c i hi hc
    rw [show L_X3_countCommands_4 sg (nI n) (0 + 1) (nI c) (nI i) = B_X3_countCommands_4 sg (nI n) (L_X3_countCommands_4 sg (nI n) 0) (nI c) (nI i) from rfl]
    unfold B_X3_countCommands_4
    rw [if_pos (by rw [qI_le (by omega) (by omega)]; omega)]
    rfl
  | succ m ih =>
    intro c i hi hc
    rw [show L_X3_countCommands_4 sg (nI n) (m + 1 + 1) (nI c) (nI i) = B_X3_countCommands_4 sg (nI n) (L_X3_countCommands_4 sg (nI n) (m + 1)) (nI c) (nI i) from rfl]
    unfold B_X3_countCommands_4
    rw [if_neg (by rw [qI_le (by omega) (by omega)]; omega), qI_ix (by omega)]
    by_cases e : sg i = 59
    · rw [if_pos e, qI_succ (by omega), qI_succ (by omega)]
      by_cases c100 : c + 1 ≤ i + 1 + 1
      · rw [ih (c + 1) (i + 1) (by omega) c100]
        congr 1
        show c + 1 + cnt59 sg (i + 1) m = c + ((if sg i = 59 then 1 else 0) + cnt59 sg (i + 1) m)
        rw [if_pos e]
        omega
      · omega
    · rw [if_neg e, qI_succ (by omega), ih c (i + 1) (by omega) (by omega)]
      congr 1
      show c + cnt59 sg (i + 1) m = c + ((if sg i = 59 then 1 else 0) + cnt59 sg (i + 1) m)
      rw [if_neg e]
      omega
theorem count_eq {sg : Nat → Int32} {n : Nat} (hn : n ≤ 60) {k : Nat} (h : cnt59 sg 0 n = k) : F_X3_countCommands sg (nI n) = nI (1 + k) := by
  unfold F_X3_countCommands
  rw [show ((nI n : Int32).toInt - (0 : Int32).toInt).toNat + 1 = n + 1 from by rw [nI_toInt (by omega), i0]; omega, show (1 : Int32) = nI 1 from rfl, show (0 : Int32) = nI 0 from rfl, count_loop hn n 1 0 (by omega) (by omega), h]
/-- the trial is another one -/
theorem OKS.tried {R r d T Bd Bd' : Nat} {stk : List SV} {sv : Option SV} {ds cs mp pk : Nat → Int32} {cap : Nat} {cn sn n tk av lo md : Int32} {hds hcs hmp hpk : Nat → Nat → Int32} {hcap : Nat → Nat} {hcn hsn hn htk hav hlo hmd : Nat → Int32} {hla hct : Int32} {TR9 SA9 TR' : SV} {wc wd sg wb nu : Nat → Int32} {ln pl wl wn isv lf kr kd kr2 kd2 mc mc' : Int32} {ch capw kk capE capE' : Nat} {PP PP' : List PG} (sg' : Nat → Int32) (pl' : Int32) (ch' : Nat) (nu' : Nat → Int32) (lf' : Int32) (kk' : Nat) (kr' kd' kr2' kd2' : Int32)
    (h : OKS R r d T Bd stk sv ((ds, cs, mp, pk, cap, cn, sn, n, tk, av, lo, md), TR9, SA9, (hds, hcs, hmp, hpk, hcap, hcn, hsn, hn, htk, hav, hlo, hmd, hla, hct), wc, wd, sg, ln, pl, ch, nu, wb, capw, wl, wn, isv, lf, kk, kr, kd, kr2, kd2, capE, mc, PP)) (hA : ARC capE' PP') (hQ : ∃ Q, PP' = PP ++ Q) (hl : PP'.length ≤ Bd') (hBd : Bd' ≤ 900000) (ht : SLT (4 * BR R + 12) TR') :
    OKS R r d T Bd' stk sv ((ds, cs, mp, pk, cap, cn, sn, n, tk, av, lo, md), TR', SA9, (hds, hcs, hmp, hpk, hcap, hcn, hsn, hn, htk, hav, hlo, hmd, hla, hct), wc, wd, sg', 0, pl', ch', nu', wb, capw, wl, wn, isv, lf', kk', kr', kd', kr2', kd2', capE', mc', PP') := by
  obtain ⟨hG, hPl, hTr, hSa, hSv, hRg, w1, w2, w3, w4, w5⟩ := h
  obtain ⟨Q, rfl⟩ := hQ
  have hl2 : (PP ++ Q).length ≤ 2000000 := by omega
  exact ⟨⟨GSS.app (S := (ds, cs, mp, pk, cap, cn, sn, n, tk, av, lo, md)) hG.1 Q hl2, hG.2.1, hA, hG.2.2.2⟩, hl, ht, hSa, SVO.mono hSv Q hl2 (Nat.le_refl _) (Nat.le_refl _) (Nat.le_refl _), RNG.mono hRg Q hl2 (Nat.le_refl _) (Nat.le_refl _) (Nat.le_refl _), w1, w2, w3, w4, rfl⟩
theorem GV.slt {R r d T : Nat} {capE : Nat} {PP : List PG} {ds cs mp pk : Nat → Int32} {cap : Nat} {cn n tk : Int32} (h : GV R r d T capE PP ds cs mp pk cap cn n tk) (hr : r ≤ R) (hd : d ≤ 100000) (hT : T < 500000) (sn av lo md : Int32) : SLT (4 * BR R + 12) (ds, cs, mp, pk, cap, cn, sn, n, tk, av, lo, md) := by
  obtain ⟨z1, z2, z3, _⟩ := gv_z h hr hd hT
  exact ⟨z1, z2, z3, h.2.1.2.2.1, h.2.2.2⟩
theorem cmd_two {r d T Bd : Nat} {stk : List SV} {sv : Option SV} {M : MS} (h : OKS 32 r d T Bd stk sv M) (hr : r + 2 ≤ 32) (hd : d ≤ 90000) (hT : T + 400 < 500000) (hB : Bd ≤ 860000) {sg9 : Nat → Int32} {n9 : Nat} (hn9 : n9 ≤ 60) (pl9 : Int32) (ch9 : Nat) (nu9 : Nat → Int32) (lf9 : Int32) {q ch1 ch2 : Nat} {a1 b1 c1 a2 b2 c2 : Int32} (hR1 : RDC sg9 n9 0 ch1 a1 b1 c1 q) (hq : q < n9) (hR2 : RDC sg9 n9 (q + 1) ch2 a2 b2 c2 n9) (hk : F_X3_countCommands sg9 (nI n9) = nI 2) (h1 : ch1 = 1 ∨ ch1 = 2 ∨ ch1 = 5) (h2 : ch2 = 1 ∨ ch2 = 2 ∨ ch2 = 5) (ha1 : a1.toInt ≤ 9) (ha2 : a2.toInt ≤ 9) :
    OQ 60 400 (setT M sg9 (nI n9) pl9 ch9 nu9 lf9) (F_L_commands (setT M sg9 (nI n9) pl9 ch9 nu9 lf9)) (fun v N' => (∃ Q, arch N' = arch M ++ Q) ∧ ((v = -1002 ∧ ∃ X idx x y, N' = setK2 X 8 (nI idx) x y ∧ FF_X10_faultPosition N' = -1 ∧ OKS 32 r d T (Bd + 162) stk sv N' ∧ N'.1 = M.1 ∧ ((idx = 0 ∧ AGC ch1 M.1.2.1 (nS M.1) a1 b1 c1 = (1, x, y)) ∨ (idx = 1 ∧ (AGC ch1 M.1.2.1 (nS M.1) a1 b1 c1).1 = 0 ∧ ∃ cs', AGC ch2 cs' (nS M.1) a2 b2 c2 = (1, x, y)))) ∨ (v = 2 ∧ OKS 32 (r + 2) (d + 4) (T + 198) (Bd + 162) (M.1 :: stk.take 7) sv N' ∧ ∃ cs', (AGC ch2 cs' (nS M.1) a2 b2 c2).1 = 0))) := by
  obtain ⟨⟨ds, cs, mp, pk, cap, cn, sn, n, tk, av, lo, md⟩, ⟨ds_t, cs_t, mp_t, pk_t, cap_t, cn_t, sn_t, n_t, tk_t, av_t, lo_t, md_t⟩, ⟨ds_s, cs_s, mp_s, pk_s, cap_s, cn_s, sn_s, n_s, tk_s, av_s, lo_s, md_s⟩, ⟨hds, hcs, hmp, hpk, hcap, hcn, hsn, hn, htk, hav, hlo, hmd, hla, hct⟩, wc, wd, sg, ln, pl, ch, nu, wb, capw, wl, wn, isv, lf, kk, kr, kd, kr2, kd2, capE, mc, PP⟩ := M
  have h9 := h
  obtain ⟨hG, hPl, ⟨t1, t2, t3, t4, t5⟩, hSa, hSv, hRg, w1, w2, w3, w4, w5⟩ := h9
  obtain ⟨z1, z2, z3, z4, z5, N9, hN, en⟩ := gv_z hG (show r ≤ 32 by omega) (by omega) (by omega)
  have hBR : BR 32 = 72420 := BB34
  replace t4 : 64 ≤ cap_t := t4
  replace t5 : cap_t ≤ 4 * BR 32 + 12 := t5
  obtain ⟨cap1, pk1, c9, s9, ec, q1, q2, q3, q4⟩ := copy_spec (ds := ds_t) (cs := cs_t) (mp := mp_t) pk_t (cap := cap_t) (ds2 := ds) (cs2 := cs) (mp2 := mp) pk (cn2 := cn) sn n tk av lo md t1 t2 t3 z1 z2 z3 z4 (by omega) t4 (by omega)
  obtain ⟨x1, x2, x3⟩ := q4
  have hG1 : GV 32 r d T capE PP ds cs mp pk1 cap1 cn n tk := ⟨GSS.eqn (S := (ds, cs, mp, pk, cap, cn, sn, n, tk, av, lo, md)) (U := (ds, cs, mp, pk1, cap1, cn, sn, n, tk, av, lo, md)) hG.1 ⟨rfl, rfl, rfl, q1, rfl, rfl⟩, q2, hG.2.2.1, by omega⟩
  obtain ⟨nu1, pl1, chx, hf⟩ := ff_two hn9 hR1 hq hR2 ch9 nu9
  have et0 : F_X10_tryCommands capE PP mc sg9 (nI n9) chx nu1 ds cs mp pk1 cap1 cn sn n tk av lo md (nI 2) = K_X10_tryCommands_9 (L_X10_tryCommands_9 sg9 (nI n9) (nI 2) (1 + 1 + 1) (nI 0) mc (nI 0) cn sn n tk av lo md chx capE cap1 nu1 ds cs mp pk1 PP 0 0) := by
    unfold F_X10_tryCommands
    rw [show (((nI 2 : Int32).toInt - (0 : Int32).toInt).toNat + 1) = 1 + 1 + 1 from by decide]
    rfl
  show OQ 60 400 ((ds, cs, mp, pk, cap, cn, sn, n, tk, av, lo, md), (ds_t, cs_t, mp_t, pk_t, cap_t, cn_t, sn_t, n_t, tk_t, av_t, lo_t, md_t), (ds_s, cs_s, mp_s, pk_s, cap_s, cn_s, sn_s, n_s, tk_s, av_s, lo_s, md_s), (hds, hcs, hmp, hpk, hcap, hcn, hsn, hn, htk, hav, hlo, hmd, hla, hct), wc, wd, sg9, nI n9, pl9, ch9, nu9, wb, capw, wl, wn, isv, lf9, kk, kr, kd, kr2, kd2, capE, mc, PP) (F_L_commands ((ds, cs, mp, pk, cap, cn, sn, n, tk, av, lo, md), (ds_t, cs_t, mp_t, pk_t, cap_t, cn_t, sn_t, n_t, tk_t, av_t, lo_t, md_t), (ds_s, cs_s, mp_s, pk_s, cap_s, cn_s, sn_s, n_s, tk_s, av_s, lo_s, md_s), (hds, hcs, hmp, hpk, hcap, hcn, hsn, hn, htk, hav, hlo, hmd, hla, hct), wc, wd, sg9, nI n9, pl9, ch9, nu9, wb, capw, wl, wn, isv, lf9, kk, kr, kd, kr2, kd2, capE, mc, PP)) _
  rcases try_step hG1 (by omega) (by omega) (by omega) (by omega) (by omega) hR1 h1 ha1 (len := 2) (idx := 0) (by omega) (by omega) (by omega) (1 + 1) chx nu1 0 0 with ⟨x, y, nu', C, S, hag, e1, hC, hS⟩ | ⟨hag, nu', capE', mc', cs', mp', cap', pk', cn', sn', tk', av', lo', md', PP', C, S, c8, s8, e1, g1, ⟨Q1, qa, qb⟩, ⟨v1, v2, v3, v4, v5⟩, hC, hS⟩
  · obtain ⟨C9, S9, e9, hC9, hS9⟩ : ∃ C9 S9, F_L_commands ((ds, cs, mp, pk, cap, cn, sn, n, tk, av, lo, md), (ds_t, cs_t, mp_t, pk_t, cap_t, cn_t, sn_t, n_t, tk_t, av_t, lo_t, md_t), (ds_s, cs_s, mp_s, pk_s, cap_s, cn_s, sn_s, n_s, tk_s, av_s, lo_s, md_s), (hds, hcs, hmp, hpk, hcap, hcn, hsn, hn, htk, hav, hlo, hmd, hla, hct), wc, wd, sg9, nI n9, pl9, ch9, nu9, wb, capw, wl, wn, isv, lf9, kk, kr, kd, kr2, kd2, capE, mc, PP) = (-1002, ((ds, cs, mp, pk, cap, cn, sn, n, tk, av, lo, md), (ds, cs, mp, pk1, cap1, cn, sn, n, tk, av, lo, md), (ds_s, cs_s, mp_s, pk_s, cap_s, cn_s, sn_s, n_s, tk_s, av_s, lo_s, md_s), (hds, hcs, hmp, hpk, hcap, hcn, hsn, hn, htk, hav, hlo, hmd, hla, hct), wc, wd, sg9, 0, nI q, ch1, nu', wb, capw, wl, wn, isv, -1, 2, 8, nI 0, x, y, capE, mc, PP), C9, S9) ∧ C9 ≤ c9 + C + 4 ∧ S9 ≤ s9 + S + 24 := cmd_ref_eq hf hk ec (et0.trans e1)
    rw [e9]
    refine ⟨⟨⟨[], (List.append_nil _).symm⟩, Or.inl ⟨rfl, ((ds, cs, mp, pk, cap, cn, sn, n, tk, av, lo, md), (ds, cs, mp, pk1, cap1, cn, sn, n, tk, av, lo, md), (ds_s, cs_s, mp_s, pk_s, cap_s, cn_s, sn_s, n_s, tk_s, av_s, lo_s, md_s), (hds, hcs, hmp, hpk, hcap, hcn, hsn, hn, htk, hav, hlo, hmd, hla, hct), wc, wd, sg9, 0, nI q, ch1, nu', wb, capw, wl, wn, isv, -1, 2, 8, nI 0, x, y, capE, mc, PP), 0, x, y, Eq.refl _, Eq.refl _, OKS.tried _ _ _ _ _ _ _ _ _ _ h hG.2.2.1 ⟨[], (List.append_nil _).symm⟩ (by omega) (by omega) (GV.slt hG1 (by omega) (by omega) (by omega) _ _ _ _), Eq.refl _, Or.inl ⟨rfl, hag⟩⟩⟩, ?_, ?_⟩
    · show S9 + (2 * (cap + cap_t + cap_s + hsum hcap) + 2 * capw + 4 * capE + 10 * PP.length) ≤ 400 + (2 * (cap + cap1 + cap_s + hsum hcap) + 2 * capw + 4 * capE + 10 * PP.length)
      omega
    · show 320 * C9 + (5 * (cap + cap_t + cap_s + hsum hcap) + 320 * capw + 64 * capE + 640 * PP.length) ≤ 320 * 60 + (5 * (cap + cap1 + cap_s + hsum hcap) + 320 * capw + 64 * capE + 640 * PP.length)
      omega
  · have hl1 : PP'.length = PP.length + Q1.length := by rw [qa, List.length_append]
    rcases try_step g1 (by omega) (by omega) (by omega) (by omega) (by omega) hR2 h2 ha2 (len := 2) (idx := 0 + 1) (by omega) (by omega) (by omega) 1 ch1 nu' C S with ⟨x, y, nu2, C2, S2, hag2, e2, hC2, hS2⟩ | ⟨hag2, nu2, capE2, mc2, cs2, mp2, cap2, pk2, cn2, sn2, tk2, av2, lo2, md2, PP2, C2, S2, c7, s7, e2, g2, ⟨Q2, qc, qd⟩, ⟨y1, y2, y3, y4, y5⟩, hC2, hS2⟩
    · obtain ⟨C9, S9, e9, hC9, hS9⟩ : ∃ C9 S9, F_L_commands ((ds, cs, mp, pk, cap, cn, sn, n, tk, av, lo, md), (ds_t, cs_t, mp_t, pk_t, cap_t, cn_t, sn_t, n_t, tk_t, av_t, lo_t, md_t), (ds_s, cs_s, mp_s, pk_s, cap_s, cn_s, sn_s, n_s, tk_s, av_s, lo_s, md_s), (hds, hcs, hmp, hpk, hcap, hcn, hsn, hn, htk, hav, hlo, hmd, hla, hct), wc, wd, sg9, nI n9, pl9, ch9, nu9, wb, capw, wl, wn, isv, lf9, kk, kr, kd, kr2, kd2, capE, mc, PP) = (-1002, ((ds, cs, mp, pk, cap, cn, sn, n, tk, av, lo, md), (ds, cs', mp', pk', cap', cn', sn', n, tk', av', lo', md'), (ds_s, cs_s, mp_s, pk_s, cap_s, cn_s, sn_s, n_s, tk_s, av_s, lo_s, md_s), (hds, hcs, hmp, hpk, hcap, hcn, hsn, hn, htk, hav, hlo, hmd, hla, hct), wc, wd, sg9, 0, nI n9, ch2, nu2, wb, capw, wl, wn, isv, -1, 2, 8, nI 1, x, y, capE', mc', PP'), C9, S9) ∧ C9 ≤ c9 + C2 + 4 ∧ S9 ≤ s9 + S2 + 24 := cmd_ref_eq hf hk ec (et0.trans (e1.trans e2))
      rw [e9]
      refine ⟨⟨⟨Q1, qa⟩, Or.inl ⟨rfl, ((ds, cs, mp, pk, cap, cn, sn, n, tk, av, lo, md), (ds, cs', mp', pk', cap', cn', sn', n, tk', av', lo', md'), (ds_s, cs_s, mp_s, pk_s, cap_s, cn_s, sn_s, n_s, tk_s, av_s, lo_s, md_s), (hds, hcs, hmp, hpk, hcap, hcn, hsn, hn, htk, hav, hlo, hmd, hla, hct), wc, wd, sg9, 0, nI n9, ch2, nu2, wb, capw, wl, wn, isv, -1, 2, 8, nI 1, x, y, capE', mc', PP'), 1, x, y, Eq.refl _, Eq.refl _, OKS.tried _ _ _ _ _ _ _ _ _ _ h g1.2.2.1 ⟨Q1, qa⟩ (by omega) (by omega) (GV.slt g1 (by omega) (by omega) (by omega) _ _ _ _), Eq.refl _, Or.inr ⟨rfl, hag, _, hag2⟩⟩⟩, ?_, ?_⟩
      · show S9 + (2 * (cap + cap_t + cap_s + hsum hcap) + 2 * capw + 4 * capE + 10 * PP.length) ≤ 400 + (2 * (cap + cap' + cap_s + hsum hcap) + 2 * capw + 4 * capE' + 10 * PP'.length)
        omega
      · show 320 * C9 + (5 * (cap + cap_t + cap_s + hsum hcap) + 320 * capw + 64 * capE + 640 * PP.length) ≤ 320 * 60 + (5 * (cap + cap' + cap_s + hsum hcap) + 320 * capw + 64 * capE' + 640 * PP'.length)
        omega
    · have hl2 : PP2.length = PP'.length + Q2.length := by rw [qc, List.length_append]
      have qe : PP2 = PP ++ (Q1 ++ Q2) := by rw [qc, qa, List.append_assoc]
      have e3 := e2.trans (try_end (sg := sg9) (ln := n9) (len := 2) (by omega) 0 ch2 nu2 C2 S2)
      obtain ⟨k1, k2, k3, k4, k5, _⟩ := gv_z g2 (show r + 1 + 1 ≤ 32 by omega) (by omega) (by omega)
      have hcap0 := hG.2.1
      have hcap1 := hG.2.2.2
      obtain ⟨d1, d2, d3, d4⟩ := hcap0
      obtain ⟨j, cap8, pk8, ck, sk, hj, ek, hcc, hrn⟩ := RNG.keep hRg (ds := ds) (cs := cs) (mp := mp) (pk := pk) (cap := cap) (cn := cn) (sn := sn) (n := n) (tk := tk) (av := av) (lo := lo) (md := md) hG.1 z1 z2 z3 z4 z5 (by omega)
      obtain ⟨cap3, pk3, c6, s6, ec2, r1, r2, r3, r4⟩ := copy_spec (ds := ds) (cs := cs) (mp := mp) pk (cap := cap) (ds2 := ds) (cs2 := cs2) (mp2 := mp2) pk2 (cn2 := cn2) sn2 n tk2 av2 lo2 md2 z1 z2 z3 k1 k2 k3 k4 (by omega) d3 (by omega)
      obtain ⟨C9, S9, e9, hC9, hS9⟩ : ∃ C9 S9, F_L_commands ((ds, cs, mp, pk, cap, cn, sn, n, tk, av, lo, md), (ds_t, cs_t, mp_t, pk_t, cap_t, cn_t, sn_t, n_t, tk_t, av_t, lo_t, md_t), (ds_s, cs_s, mp_s, pk_s, cap_s, cn_s, sn_s, n_s, tk_s, av_s, lo_s, md_s), (hds, hcs, hmp, hpk, hcap, hcn, hsn, hn, htk, hav, hlo, hmd, hla, hct), wc, wd, sg9, nI n9, pl9, ch9, nu9, wb, capw, wl, wn, isv, lf9, kk, kr, kd, kr2, kd2, capE, mc, PP) = (nI 2, ((ds, cs2, mp2, pk3, cap3, cn2, sn2, n, tk2, av2, lo2, md2), (ds, cs2, mp2, pk2, cap2, cn2, sn2, n, tk2, av2, lo2, md2), (ds_s, cs_s, mp_s, pk_s, cap_s, cn_s, sn_s, n_s, tk_s, av_s, lo_s, md_s), (va_up hds j ds, va_up hcs j cs, va_up hmp j mp, va_up hpk j pk8, va_up hcap j cap8, va_up hcn j cn, va_up hsn j sn, va_up hn j n, va_up htk j tk, va_up hav j av, va_up hlo j lo, va_up hmd j md, rmI (hla + 1) 8, inI (hct + 1) 8), wc, wd, sg9, 0, nI (n9 + 1), ch2, nu2, wb, capw, wl, wn, isv, -1, kk, kr, kd, kr2, kd2, capE2, mc2, PP2), C9, S9) ∧ C9 ≤ c9 + C2 + ck + c6 + 4 ∧ S9 ≤ s9 + S2 + sk + s6 + 24 := cmd_ok_eq hf hk ec (et0.trans (e1.trans e3)) ek ec2
      have hs := hsum_up hcap cap8 hj
      obtain ⟨u1, u2, u3⟩ := hcc
      obtain ⟨p1, p2, p3⟩ := r4
      have hG3 : GV 32 (r + 2) (d + 4) (T + 198) capE2 PP2 ds cs2 mp2 pk3 cap3 cn2 n tk2 := ⟨GSS.mono (GSS.eqn (S := (ds, cs2, mp2, pk2, cap2, cn2, sn2, n, tk2, av2, lo2, md2)) (U := (ds, cs2, mp2, pk3, cap3, cn2, sn2, n, tk2, av2, lo2, md2)) g2.1 ⟨rfl, rfl, rfl, r1, rfl, rfl⟩) (by omega) (by omega) (by omega), r2, g2.2.2.1, by omega⟩
      have ho := OKS.step h hrn hG3 ⟨Q1 ++ Q2, qe⟩ (Bd' := Bd + 162) (by omega) (by omega) (by omega) (by omega) (by omega) (mc' := mc2) (sn' := sn2) (av' := av2) (lo' := lo2) (md' := md2)
      obtain ⟨o1, o2, o3, o4, o5, o6, o7, o8, o9, o10, o11⟩ := ho
      rw [e9]
      refine ⟨⟨⟨Q1 ++ Q2, qe⟩, Or.inr ⟨rfl, ⟨o1, o2, GV.slt g2 (by omega) (by omega) (by omega) _ _ _ _, o4, o5, o6, o7, o8, o9, o10, rfl⟩, _, hag2⟩⟩, ?_, ?_⟩
      · show S9 + (2 * (cap + cap_t + cap_s + hsum hcap) + 2 * capw + 4 * capE + 10 * PP.length) ≤ 400 + (2 * (cap3 + cap2 + cap_s + hsum (va_up hcap j cap8)) + 2 * capw + 4 * capE2 + 10 * PP2.length)
        omega
      · show 320 * C9 + (5 * (cap + cap_t + cap_s + hsum hcap) + 320 * capw + 64 * capE + 640 * PP.length) ≤ 320 * 60 + (5 * (cap3 + cap2 + cap_s + hsum (va_up hcap j cap8)) + 320 * capw + 64 * capE2 + 640 * PP2.length)
        omega
