/-! A SECOND OBJECT; THE FIRST ONE'S UNDOING -/
theorem oks_phs {R r d T Bd : Nat} {stk : List SV} {sv : Option SV} {M : MS} (h : OKS R r d T Bd stk sv M) : PHS M ≤ 2 * (8 * BR R + 24 + 9 * (2 * BR R + 64)) + 1000 + 4 * (10 + Bd + Bd / 2) + 10 * Bd ∧ PHK M ≤ 5 * (8 * BR R + 24 + 9 * (2 * BR R + 64)) + 160000 + 64 * (10 + Bd + Bd / 2) + 640 * Bd := by
  obtain ⟨⟨ds, cs, mp, pk, cap, cn, sn, n, tk, av, lo, md⟩, ⟨ds_t, cs_t, mp_t, pk_t, cap_t, cn_t, sn_t, n_t, tk_t, av_t, lo_t, md_t⟩, ⟨ds_s, cs_s, mp_s, pk_s, cap_s, cn_s, sn_s, n_s, tk_s, av_s, lo_s, md_s⟩, ⟨hds, hcs, hmp, hpk, hcap, hcn, hsn, hn, htk, hav, hlo, hmd, hla, hct⟩, wc, wd, sg, ln, pl, ch, nu, wb, capw, wl, wn, isv, lf, kk, kr, kd, kr2, kd2, capE, mc, PP⟩ := M
  obtain ⟨hG, hPl, hTr, hSa, hSv, hRg, w1, w2, w3, w4, w5⟩ := h
  obtain ⟨k1, _⟩ := hRg
  have hc := hG.2.2.2
  have hE := hG.2.2.1.2.2
  have ht : cap_t ≤ 4 * BR R + 12 := hTr.2.2.2.2
  have hs : cap_s ≤ 2 * BR R + 64 := hSa.2.2.2.2
  have q0 : hcap 0 ≤ 2 * BR R + 64 := (k1 0 (by omega)).2.2.2.2
  have q1 : hcap 1 ≤ 2 * BR R + 64 := (k1 1 (by omega)).2.2.2.2
  have q2 : hcap 2 ≤ 2 * BR R + 64 := (k1 2 (by omega)).2.2.2.2
  have q3 : hcap 3 ≤ 2 * BR R + 64 := (k1 3 (by omega)).2.2.2.2
  have q4 : hcap 4 ≤ 2 * BR R + 64 := (k1 4 (by omega)).2.2.2.2
  have q5 : hcap 5 ≤ 2 * BR R + 64 := (k1 5 (by omega)).2.2.2.2
  have q6 : hcap 6 ≤ 2 * BR R + 64 := (k1 6 (by omega)).2.2.2.2
  have q7 : hcap 7 ≤ 2 * BR R + 64 := (k1 7 (by omega)).2.2.2.2
  constructor
  · show 2 * (cap + cap_t + cap_s + hsum hcap) + 2 * capw + 4 * capE + 10 * PP.length ≤ _
    unfold hsum
    omega
  · show 5 * (cap + cap_t + cap_s + hsum hcap) + 320 * capw + 64 * capE + 640 * PP.length ≤ _
    unfold hsum
    omega
theorem OQ.jump {α : Type} {c s c' s' B Bk : Nat} {N : MS} {r : α × MS × Nat × Nat} {P : α → MS → Prop} (h : OQ c s M0_ r P) (hb : PHS N ≤ B) (hk : PHK N ≤ 320 * Bk) (hc : c + 82 + Bk ≤ c') (hs : s + 1883 + B ≤ s') : OQ c' s' N (adc 1 10 (adc 81 1873 r)) P := by
  obtain ⟨h1, h2, h3⟩ := h
  refine ⟨h1, ?_, ?_⟩
  · show 10 + (1873 + r.2.2.2) + PHS N ≤ s' + PHS r.2.1
    omega
  · show 320 * (1 + (81 + r.2.2.1)) + PHK N ≤ 320 * c' + PHK r.2.1
    omega
theorem eqn_tk {S U : SV} (h : EQN S U) : tkS U = tkS S := by
  obtain ⟨_, _, _, _, _, e⟩ := h
  exact (congrArg (fun x => x.2.2.1) e).symm
theorem eqn_n {S U : SV} (h : EQN S U) : nS U = nS S := by
  obtain ⟨_, _, _, _, _, e⟩ := h
  exact (congrArg (fun x => x.2.1) e).symm
def csE : Nat → Nat → Int32
  | 0 => fun _ => 0
  | k + 1 => csU (csE k) k ((k + 1) % 6) (nI (1 + k))
theorem csE_5 : F_X8_countCanals (csE 5) (nI 6) = 5 := by decide +kernel
theorem csE_0 : F_X8_countCanals (csE 0) (nI 6) = 0 := by decide +kernel
theorem csE_at : ∀ k : Fin 6, csE k.val (6 * k.val + (k.val + 1) % 6) = 0 := by decide +kernel
theorem nI_lit : nI 7 = 7 ∧ nI 6 = 6 ∧ nI 5 = 5 ∧ nI 4 = 4 ∧ nI 3 = 3 ∧ nI 2 = 2 ∧ nI 1 = 1 ∧ nI 0 = 0 := ⟨rfl, rfl, rfl, rfl, rfl, rfl, rfl, rfl⟩
set_option maxRecDepth 100000 in
theorem e_undo (len1 : Nat) (xs1 : Nat → Int32) {r d T Bd : Nat} {s0 s1 s2 s3 s4 s5 s6 s7 S0 : SV} {N : MS} (h : OKS 10 r d T Bd [s0, s1, s2, s3, s4, s5, s6, s7] (some S0) N) (hr : r ≤ 10) (hd : d ≤ 100000) (hT : T < 500000) (hB : Bd ≤ 1400) (h0 : tkS s0 = 5) (h1 : s1.2.1 = csE 5) (h1n : nS s1 = nI 6) (h6 : s6.2.1 = csE 0) (h6n : nS s6 = nI 6) (h7 : nS s7 = nI 5) (hS : nS S0 = 0) (hSt : tkS S0 = 0) {Co So : Nat} {Q : Int32 → MS → Prop} (hO : OQ Co So M0_ (K_L_law_429 len1 xs1 (F_L_makes M0_ len1 xs1)) Q) :
    OQ (Co + 12000) (So + 550000) N (K_L_law_267 len1 xs1 104 (F_L_undo N)) Q := by
  have hBR : BR 10 = 9720 := by decide +kernel
  refine OQ.mono (c := Co + 11000 + 4 + 1 + 1 + 4 + 4 + 1 + 4 + 1 + 4 + 4 + 4 + 4 + 4 + 1 + 4 + 1 + 4) (s := So + 540000 + 24 + 6 + 6 + 24 + 24 + 6 + 24 + 6 + 24 + 24 + 24 + 24 + 24 + 6 + 24 + 6 + 24) ?_ (by omega) (by omega) (fun _ _ z => z)
  refine OQ.bind (c1 := 4) (s1 := 24) (c2 := Co + 11000 + 4 + 1 + 1 + 4 + 4 + 1 + 4 + 1 + 4 + 4 + 4 + 4 + 4 + 1 + 4 + 1) (s2 := So + 540000 + 24 + 6 + 6 + 24 + 24 + 6 + 24 + 6 + 24 + 24 + 24 + 24 + 24 + 6 + 24 + 6) (K := K_L_law_267 len1 xs1 104) _ (kq_L_law_267 len1 xs1 104) (oq_undo h hr (by omega) hd hT) (fun v N1 hP => ?_)
  obtain ⟨k1, a1, rfl, e1⟩ := hP
  rw [if_pos (show nI [s1, s2, s3, s4, s5, s6, s7].length = 7 from rfl), acc_0, show tkS N1.1 = 5 from (eqn_tk e1).trans h0]
  refine OQ.bind (c1 := 1) (s1 := 6) (c2 := Co + 11000 + 4 + 1 + 1 + 4 + 4 + 1 + 4 + 1 + 4 + 4 + 4 + 4 + 4 + 1 + 4) (s2 := So + 540000 + 24 + 6 + 6 + 24 + 24 + 6 + 24 + 6 + 24 + 24 + 24 + 24 + 24 + 6 + 24) (K := K_L_law_277 len1 xs1 104) _ (kq_L_law_277 len1 xs1 104) (oq_q (Eq.refl (5, N1, 1, 6))) (fun v N9 hP => ?_)
  obtain ⟨rfl, hN9⟩ := hP
  rw [hN9, if_pos rfl, if_pos rfl]
  refine OQ.bind (c1 := 4) (s1 := 24) (c2 := Co + 11000 + 4 + 1 + 1 + 4 + 4 + 1 + 4 + 1 + 4 + 4 + 4 + 4 + 4 + 1) (s2 := So + 540000 + 24 + 6 + 6 + 24 + 24 + 6 + 24 + 6 + 24 + 24 + 24 + 24 + 24 + 6) (K := K_L_law_291 len1 xs1) _ (kq_L_law_291 len1 xs1) (oq_undo k1 hr (by omega) hd hT) (fun v N2 hP => ?_)
  obtain ⟨k2, a2, rfl, e2⟩ := hP
  rw [if_pos (show nI [s2, s3, s4, s5, s6, s7].length = 6 from rfl), acc_2, show F_X8_countCanals N2.1.2.1 (nS N2.1) = 5 from by rw [← e2.2.1, h1, eqn_n e2, h1n]; exact csE_5]
  refine OQ.bind (c1 := 1) (s1 := 6) (c2 := Co + 11000 + 4 + 1 + 1 + 4 + 4 + 1 + 4 + 1 + 4 + 4 + 4 + 4 + 4) (s2 := So + 540000 + 24 + 6 + 6 + 24 + 24 + 6 + 24 + 6 + 24 + 24 + 24 + 24 + 24) (K := K_L_law_301 len1 xs1) _ (kq_L_law_301 len1 xs1) (oq_q (Eq.refl (5, N2, 1, 6))) (fun v N9 hP => ?_)
  obtain ⟨rfl, hN9⟩ := hP
  rw [hN9, if_pos rfl]
  refine OQ.bind (c1 := 4) (s1 := 24) (c2 := Co + 11000 + 4 + 1 + 1 + 4 + 4 + 1 + 4 + 1 + 4 + 4 + 4 + 4) (s2 := So + 540000 + 24 + 6 + 6 + 24 + 24 + 6 + 24 + 6 + 24 + 24 + 24 + 24) (K := K_L_law_309 len1 xs1) _ (kq_L_law_309 len1 xs1) (oq_undo k2 hr (by omega) hd hT) (fun v N3 hP => ?_)
  obtain ⟨k3, a3, rfl, e3⟩ := hP
  rw [if_pos (show nI [s3, s4, s5, s6, s7].length = 5 from rfl)]
  refine OQ.bind (c1 := 4) (s1 := 24) (c2 := Co + 11000 + 4 + 1 + 1 + 4 + 4 + 1 + 4 + 1 + 4 + 4 + 4) (s2 := So + 540000 + 24 + 6 + 6 + 24 + 24 + 6 + 24 + 6 + 24 + 24 + 24) (K := K_L_law_317 len1 xs1) _ (kq_L_law_317 len1 xs1) (oq_undo k3 hr (by omega) hd hT) (fun v N4 hP => ?_)
  obtain ⟨k4, a4, rfl, e4⟩ := hP
  rw [if_pos (show nI [s4, s5, s6, s7].length = 4 from rfl)]
  refine OQ.bind (c1 := 4) (s1 := 24) (c2 := Co + 11000 + 4 + 1 + 1 + 4 + 4 + 1 + 4 + 1 + 4 + 4) (s2 := So + 540000 + 24 + 6 + 6 + 24 + 24 + 6 + 24 + 6 + 24 + 24) (K := K_L_law_325 len1 xs1) _ (kq_L_law_325 len1 xs1) (oq_undo k4 hr (by omega) hd hT) (fun v N5 hP => ?_)
  obtain ⟨k5, a5, rfl, e5⟩ := hP
  rw [if_pos (show nI [s5, s6, s7].length = 3 from rfl)]
  refine OQ.bind (c1 := 4) (s1 := 24) (c2 := Co + 11000 + 4 + 1 + 1 + 4 + 4 + 1 + 4 + 1 + 4) (s2 := So + 540000 + 24 + 6 + 6 + 24 + 24 + 6 + 24 + 6 + 24) (K := K_L_law_333 len1 xs1) _ (kq_L_law_333 len1 xs1) (oq_undo k5 hr (by omega) hd hT) (fun v N6 hP => ?_)
  obtain ⟨k6, a6, rfl, e6⟩ := hP
  rw [if_pos (show nI [s6, s7].length = 2 from rfl)]
  refine OQ.bind (c1 := 4) (s1 := 24) (c2 := Co + 11000 + 4 + 1 + 1 + 4 + 4 + 1 + 4 + 1) (s2 := So + 540000 + 24 + 6 + 6 + 24 + 24 + 6 + 24 + 6) (K := K_L_law_341 len1 xs1) _ (kq_L_law_341 len1 xs1) (oq_undo k6 hr (by omega) hd hT) (fun v N7 hP => ?_)
  obtain ⟨k7, a7, rfl, e7⟩ := hP
  rw [if_pos (show nI [s7].length = 1 from rfl), acc_2, show F_X8_countCanals N7.1.2.1 (nS N7.1) = 0 from by rw [← e7.2.1, h6, eqn_n e7, h6n]; exact csE_0]
  refine OQ.bind (c1 := 1) (s1 := 6) (c2 := Co + 11000 + 4 + 1 + 1 + 4 + 4 + 1 + 4) (s2 := So + 540000 + 24 + 6 + 6 + 24 + 24 + 6 + 24) (K := K_L_law_350 len1 xs1) _ (kq_L_law_350 len1 xs1) (oq_q (Eq.refl (0, N7, 1, 6))) (fun v N9 hP => ?_)
  obtain ⟨rfl, hN9⟩ := hP
  rw [hN9, if_pos rfl]
  refine OQ.bind (c1 := 4) (s1 := 24) (c2 := Co + 11000 + 4 + 1 + 1 + 4 + 4 + 1) (s2 := So + 540000 + 24 + 6 + 6 + 24 + 24 + 6) (K := K_L_law_357 len1 xs1) _ (kq_L_law_357 len1 xs1) (oq_undo k7 hr (by omega) hd hT) (fun v N8 hP => ?_)
  obtain ⟨k8, a8, rfl, e8⟩ := hP
  rw [if_pos (show nI ([] : List SV).length = 0 from rfl), acc_1, show nS N8.1 = 5 from (eqn_n e8).trans h7]
  refine OQ.bind (c1 := 1) (s1 := 6) (c2 := Co + 11000 + 4 + 1 + 1 + 4 + 4) (s2 := So + 540000 + 24 + 6 + 6 + 24 + 24) (K := K_L_law_365 len1 xs1) _ (kq_L_law_365 len1 xs1) (oq_q (Eq.refl (5, N8, 1, 6))) (fun v N9 hP => ?_)
  obtain ⟨rfl, hN9⟩ := hP
  rw [hN9, if_pos rfl]
  refine OQ.bind (c1 := 4) (s1 := 24) (c2 := Co + 11000 + 4 + 1 + 1 + 4) (s2 := So + 540000 + 24 + 6 + 6 + 24) (K := K_L_law_373 len1 xs1) _ (kq_L_law_373 len1 xs1) (oq_undo0 k8) (fun v N9 hP => ?_)
  obtain ⟨rfl, hN9⟩ := hP
  rw [hN9, if_pos rfl]
  refine OQ.bind (c1 := 4) (s1 := 24) (c2 := Co + 11000 + 4 + 1 + 1) (s2 := So + 540000 + 24 + 6 + 6) (K := K_L_law_385 len1 xs1) _ (kq_L_law_385 len1 xs1) (oq_restore k8 hr (by omega) hd hT) (fun v NA hP => ?_)
  obtain ⟨kA, aA, rfl, eA⟩ := hP
  rw [if_pos hS, acc_1, show nS NA.1 = 0 from (eqn_n eA).trans hS]
  refine OQ.bind (c1 := 1) (s1 := 6) (c2 := Co + 11000 + 4 + 1) (s2 := So + 540000 + 24 + 6) (K := K_L_law_393 len1 xs1) _ (kq_L_law_393 len1 xs1) (oq_q (Eq.refl (0, NA, 1, 6))) (fun v N9 hP => ?_)
  obtain ⟨rfl, hN9⟩ := hP
  rw [hN9, if_pos rfl, acc_0, show tkS NA.1 = 0 from (eqn_tk eA).trans hSt]
  refine OQ.bind (c1 := 1) (s1 := 6) (c2 := Co + 11000 + 4) (s2 := So + 540000 + 24) (K := K_L_law_401 len1 xs1) _ (kq_L_law_401 len1 xs1) (oq_q (Eq.refl (0, NA, 1, 6))) (fun v N9 hP => ?_)
  obtain ⟨rfl, hN9⟩ := hP
  rw [hN9, if_pos rfl]
  refine OQ.bind (c1 := 4) (s1 := 24) (c2 := Co + 11000) (s2 := So + 540000) (K := K_L_law_408 len1 xs1) _ (kq_L_law_408 len1 xs1) (oq_undo0 kA) (fun v N9 hP => ?_)
  obtain ⟨rfl, hN9⟩ := hP
  rw [hN9, if_pos rfl]
  have hp := oks_phs kA
  rw [hBR] at hp
  exact OQ.jump hO (B := 538000) (Bk := 10900) (by omega) (by omega) (by omega) (by omega)
