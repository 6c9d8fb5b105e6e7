/-! THE WHOLE LAW IS TRUE, AND WHAT IT COSTS -/
def LQ (v : Int32) (N : MS) : Prop := v = 1 ∧ PHS N ≤ 4156190 ∧ PHK N ≤ 27500000
set_option maxRecDepth 100000 in
theorem o_part (len1 : Nat) (xs1 : Nat → Int32) : OQ 131600 773400 M0_ (K_L_law_429 len1 xs1 (F_L_makes M0_ len1 xs1)) LQ := by
  refine OQ.mono (c := 9180 + 4590 * 0 + 9300 * 10 + 1 + 4580 + 1 + 4 + 14990 + 4580 + 4580 + 640) (s := 55080 + 27510 * 0 + 55800 * 10 + 11 + 27480 + 6 + 24 + 74540 + 27480 + 27480 + 3200) ?_ (by omega) (by omega) (fun _ _ z => z)
  refine OQ.bind (c1 := 640) (s1 := 3200) (c2 := 9180 + 4590 * 0 + 9300 * 10 + 1 + 4580 + 1 + 4 + 14990 + 4580 + 4580) (s2 := 55080 + 27510 * 0 + 55800 * 10 + 11 + 27480 + 6 + 24 + 74540 + 27480 + 27480) (K := K_L_law_429 len1 xs1) _ (kq_L_law_429 len1 xs1) (oq_makes len1 xs1) (fun v N hP => ?_)
  obtain ⟨rfl, stk, k9, h, hk3, hk6, hn⟩ := hP
  rw [if_neg (by decide)]
  refine OQ.bind (c1 := 4580) (s1 := 27480) (c2 := 9180 + 4590 * 0 + 9300 * 10 + 1 + 4580 + 1 + 4 + 14990 + 4580) (s2 := 55080 + 27510 * 0 + 55800 * 10 + 11 + 27480 + 6 + 24 + 74540 + 27480) (K := K_L_law_438 len1 xs1) _ (kq_L_law_438 len1 xs1) (oq_asks h (by omega) (by omega) (by omega) (by omega)) (fun sum N1 hP => ?_)
  obtain ⟨h1, ⟨Q1, a1⟩, e1, hA⟩ := hP
  refine OQ.bind (c1 := 4580) (s1 := 27480) (c2 := 9180 + 4590 * 0 + 9300 * 10 + 1 + 4580 + 1 + 4 + 14990) (s2 := 55080 + 27510 * 0 + 55800 * 10 + 11 + 27480 + 6 + 24 + 74540) (K := K_L_law_444 len1 xs1 sum) _ (kq_L_law_444 len1 xs1 sum) (oq_same h1 (by omega) (by omega) (by omega) (by omega) hA (by rw [e1]; exact EQN.rfl') ⟨Q1, a1⟩) (fun w N2 hP => ?_)
  obtain ⟨rfl, h2, ⟨Q2, a2⟩, e2⟩ := hP
  rw [if_pos (lgc _)]
  refine OQ.bind (c1 := 14990) (s1 := 74540) (c2 := 9180 + 4590 * 0 + 9300 * 10 + 1 + 4580 + 1 + 4) (s2 := 55080 + 27510 * 0 + 55800 * 10 + 11 + 27480 + 6 + 24) (K := K_L_law_454 len1 xs1 w) _ (kq_L_law_454 len1 xs1 w) (OQ.mono (oq_refused h2 (by rw [e2, e1, hn]) hk3 hk6 (by omega) (by omega) (by omega) (by omega)) (by omega) (by omega) (fun _ _ z => z)) (fun v N3 hP => ?_)
  obtain ⟨rfl, h3, ⟨Q3, a3⟩, e3⟩ := hP
  rw [if_neg (by decide)]
  unfold K_L_law_463
  obtain ⟨hs, hsv⟩ := oq_save h3 (by omega) (by omega) (by omega) (by omega)
  obtain ⟨⟨h4, a4, e4⟩, c4, d4⟩ := hsv
  generalize FF_X10_save N3 = y at hs h4 a4 e4 c4 d4 ⊢
  refine OQ.ad2 (c := 9180 + 4590 * 0 + 9300 * 10 + 1 + 4580 + 1) (s := 55080 + 27510 * 0 + 55800 * 10 + 11 + 27480 + 6) (c1 := 4) (s1 := 24) (N := T_X10_save N3 y) ?_ c4 d4
  generalize T_X10_save N3 y = N4 at h4 a4 e4 c4 d4 ⊢
  rw [acc_1, e4]
  refine OQ.bind (c1 := 1) (s1 := 6) (c2 := 9180 + 4590 * 0 + 9300 * 10 + 1 + 4580) (s2 := 55080 + 27510 * 0 + 55800 * 10 + 11 + 27480) (K := K_L_law_472 len1 xs1 w y) _ (kq_L_law_472 len1 xs1 w y) (oq_q (Eq.refl (nS N3.1, N4, 1, 6))) (fun v N9 hP => ?_)
  obtain ⟨rfl, hN9⟩ := hP
  rw [hN9, if_pos hs]
  have ea : arch N4 = arch N ++ (Q1 ++ Q2 ++ Q3) := by rw [a4, a3, a2, a1]; simp only [List.append_assoc]
  have e5 : N4.1 = N.1 := by rw [e4, e3, e2, e1]
  refine OQ.bind (c1 := 4580) (s1 := 27480) (c2 := 9180 + 4590 * 0 + 9300 * 10 + 1) (s2 := 55080 + 27510 * 0 + 55800 * 10 + 11) (K := K_L_law_479 len1 xs1 w y) _ (kq_L_law_479 len1 xs1 w y) (oq_same h4 (by omega) (by omega) (by omega) (by omega) hA (by rw [e5]; exact EQN.rfl') ⟨_, ea⟩) (fun u N5 hP => ?_)
  obtain ⟨rfl, h5, ⟨Q5, a5⟩, e6⟩ := hP
  rw [if_pos (lgc _)]
  refine OQ.ad (c := 9180 + 4590 * 0 + 9300 * 10) (s := 55080 + 27510 * 0 + 55800 * 10) ?_
  rw [show (((10 : Int32).toInt - (0 : Int32).toInt).toNat + 1) = 10 + 1 from by decide]
  have eb : arch N5 = arch N ++ (Q1 ++ Q2 ++ Q3 ++ Q5) := by rw [a5, ea]; simp only [List.append_assoc]
  refine OQ.mono (chg_loop len1 xs1 (S := N3.1) (sum := u) (y := y) hs 10 0 0 (fun _ => 0) (733 + 600 + 600 + 600 + 162 + 162 + 600 + 600) stk N5 (by omega) (by omega) (OKS.mono h5 (by omega) (by omega) (by omega) (by omega) (by omega)) (by rw [eb, show N3.1 = N.1 from by rw [e3, e2, e1]]; exact hA.app _) ⟨by omega, by obtain ⟨_, z⟩ := OKS.hct h5; omega, fun i U hi => by omega⟩ (by omega)) (Nat.le_refl _) (Nat.le_refl _) (fun v N' hP => ?_)
  obtain ⟨rfl, stk', r', d', T', h6⟩ := hP
  have hp := oks_phs h6
  rw [BB34, show LBB = 72420 from rfl] at hp
  exact ⟨rfl, by omega, by omega⟩
theorem md_pass5 : mdS (F_L_pass (T_X10_save M0_ (FF_X10_save M0_)) 5).2.1.1 = 0 := by decide +kernel
set_option maxRecDepth 100000 in
theorem e_text (len1 : Nat) (xs1 : Nat → Int32) {S0 : SV} (hS : nS S0 = 0) (hSt : tkS S0 = 0) {Co So : Nat} {Q : Int32 → MS → Prop} (hO : OQ Co So M0_ (K_L_law_429 len1 xs1 (F_L_makes M0_ len1 xs1)) Q) {d Bd : Nat} {stk : List SV} {M : MS} (h : OKS 10 2 d 99 Bd stk (some S0) M) (hd : d ≤ 60000) (hB : Bd ≤ 600) (hl : stk.length = 1) (hI : EI M.1 (csE 0) 0) (hm : mdS M.1 = nI 0) : ∀ (m k : Nat) (N : MS), k + m = 60 → TXS M k (fun j => nI (65 + j)) N → OQ (Co + 12700 + 2 * m) (So + 553000 + 12 * m) N (L_L_law_47 len1 xs1 (m + 1) (nI k) N) Q := by
  intro m
  induction m with
  | zero =>
    intro k N hk hN
    have ek : k = 60 := by omega
    subst ek
    rw [show L_L_law_47 len1 xs1 (0 + 1) (nI 60) N = B_L_law_47 len1 xs1 (L_L_law_47 len1 xs1 0) (nI 60) N from rfl]
    unfold B_L_law_47
    rw [if_pos (by decide)]
    obtain ⟨sg, pl, ch, nu, lf, rfl, hs⟩ := hN
    refine OQ.mono (c := Co + 12400 + 30 * 6 + 1 + 4 + 1 + 1) (s := So + 552200 + 110 * 6 + 6 + 24 + 6 + 6) ?_ (by omega) (by omega) (fun _ _ z => z)
    refine OQ.bind (c1 := 1) (s1 := 6) (c2 := Co + 12400 + 30 * 6 + 1 + 4 + 1) (s2 := So + 552200 + 110 * 6 + 6 + 24 + 6) (K := K_L_law_79 len1 xs1) _ (kq_L_law_79 len1 xs1) (oq_q (app_full M sg pl ch nu lf 116)) (fun v N1 hP => ?_)
    obtain ⟨rfl, rfl⟩ := hP
    rw [if_pos rfl]
    refine OQ.bind (c1 := 1) (s1 := 6) (c2 := Co + 12400 + 30 * 6 + 1 + 4) (s2 := So + 552200 + 110 * 6 + 6 + 24) (K := K_L_law_91 len1 xs1) _ (kq_L_law_91 len1 xs1) (oq_q (acc_10 M sg (nI 60) pl ch nu lf)) (fun v N1 hP => ?_)
    obtain ⟨rfl, rfl⟩ := hP
    rw [if_pos (show nI 60 = 60 from rfl)]
    have h0 : sg 0 = nI (65 + 0) := hs 0 (by omega)
    refine OQ.bind (c1 := 4) (s1 := 24) (c2 := Co + 12400 + 30 * 6 + 1) (s2 := So + 552200 + 110 * 6 + 6) (K := K_L_law_100 len1 xs1) _ (kq_L_law_100 len1 xs1) (oq_fault h (n9 := 60) (by omega) (by omega) (by rw [h0]; decide) pl ch nu lf) (fun v N1 hP => ?_)
    obtain ⟨rfl, rfl⟩ := hP
    rw [if_pos rfl]
    unfold K_L_law_110
    rw [if_pos (setT_fp M sg 0 0 ch nu 0)]
    refine OQ.bind (c1 := 1) (s1 := 6) (c2 := Co + 12400 + 30 * 6) (s2 := So + 552200 + 110 * 6) (K := K_L_law_119 len1 xs1) _ (kq_L_law_119 len1 xs1) (oq_q (acc_10 M sg 0 0 ch nu 0)) (fun v N1 hP => ?_)
    obtain ⟨rfl, rfl⟩ := hP
    rw [if_pos rfl, show (((6 : Int32).toInt - (0 : Int32).toInt).toNat + 1) = 6 + 1 from by decide]
    have hx := setT_1 M sg 0 0 ch nu 0
    exact e_comes len1 xs1 hS hSt hO 6 0 d Bd stk _ (by omega) (OKS.setT h sg 0 ch nu 0) (by omega) (by omega) (by rw [hl]) (fun S z => absurd z (Nat.lt_irrefl _)) (by rw [hx.1]; exact hI) (by rw [hx.1]; exact hm)
  | succ m ih =>
    intro k N hk hN
    rw [show L_L_law_47 len1 xs1 (m + 1 + 1) (nI k) N = B_L_law_47 len1 xs1 (L_L_law_47 len1 xs1 (m + 1)) (nI k) N from rfl]
    unfold B_L_law_47
    have key : ∀ i : Fin 60, ci_ ((65 : Int32) + nI i.val) = nI (65 + i.val) := by decide +kernel
    rw [if_neg (show ¬ (60 : Int32) ≤ nI k by rw [show (60 : Int32) = nI 60 from rfl, qI_le (by omega) (by omega)]; omega)]
    refine OQ.mono (c := Co + 12700 + 2 * m + 1) (s := So + 553000 + 12 * m + 6) ?_ (by omega) (by omega) (fun _ _ z => z)
    refine OQ.bind (c1 := 1) (s1 := 6) (c2 := Co + 12700 + 2 * m) (s2 := So + 553000 + 12 * m) (K := K_L_law_59 (nI k) (L_L_law_47 len1 xs1 (m + 1))) _ (kq_L_law_59 (nI k) (L_L_law_47 len1 xs1 (m + 1))) (oq_append hN (by omega) (key ⟨k, by omega⟩)) (fun v N1 hP => ?_)
    obtain ⟨rfl, hN1⟩ := hP
    rw [qI_succ (by omega), if_pos rfl]
    exact ih (k + 1) N1 (by omega) hN1
theorem OQ.and {α : Type} {c s : Nat} {M : MS} {r : α × MS × Nat × Nat} {P R : α → MS → Prop} (h : OQ c s M r P) (h2 : R r.1 r.2.1) : OQ c s M r (fun v N => P v N ∧ R v N) := ⟨⟨h.1, h2⟩, h.2⟩
set_option maxRecDepth 100000 in
theorem e_start (len1 : Nat) (xs1 : Nat → Int32) {Co So : Nat} {Q : Int32 → MS → Prop} (hO : OQ Co So M0_ (K_L_law_429 len1 xs1 (F_L_makes M0_ len1 xs1)) Q) : OQ (Co + 12900) (So + 554000) M0_ (K_L_law_9 len1 xs1 (F_L_undo M0_)) Q := by
  have h0 := oks_M0 10
  refine OQ.mono (c := Co + 12700 + 2 * 60 + 20 + 4 + 4 + 4) (s := So + 553000 + 12 * 60 + 100 + 24 + 24 + 24) ?_ (by omega) (by omega) (fun _ _ z => z)
  refine OQ.bind (c1 := 4) (s1 := 24) (c2 := Co + 12700 + 2 * 60 + 20 + 4 + 4) (s2 := So + 553000 + 12 * 60 + 100 + 24 + 24) (K := K_L_law_9 len1 xs1) _ (kq_L_law_9 len1 xs1) (oq_undo0 h0) (fun v N hP => ?_)
  obtain ⟨rfl, hN⟩ := hP
  rw [hN, if_pos rfl]
  refine OQ.bind (c1 := 4) (s1 := 24) (c2 := Co + 12700 + 2 * 60 + 20 + 4) (s2 := So + 553000 + 12 * 60 + 100 + 24) (K := K_L_law_19 len1 xs1) _ (kq_L_law_19 len1 xs1) (oq_restore0 h0) (fun v N9 hP => ?_)
  obtain ⟨rfl, hN9⟩ := hP
  rw [hN9, if_pos rfl]
  unfold K_L_law_29
  obtain ⟨hs, ⟨h1, a1, e1⟩, c4, d4⟩ := oq_save h0 (by omega) (by omega) (by omega) (by omega)
  have hmd := md_pass5
  generalize FF_X10_save M0_ = y at hs h1 a1 e1 c4 d4 hmd ⊢
  refine OQ.ad2 (c := Co + 12700 + 2 * 60 + 20) (s := So + 553000 + 12 * 60 + 100) (c1 := 4) (s1 := 24) (N := T_X10_save M0_ y) ?_ c4 d4
  generalize T_X10_save M0_ y = N1 at h1 a1 e1 c4 d4 hmd ⊢
  rw [if_pos (show y.1 = 0 from hs.trans m0_n)]
  have hp := oq_pass 5 h1 (by omega) (by omega) (by omega) (by omega) (by omega) (by rw [ag5_eq]; decide)
  generalize F_L_pass N1 5 = rp at hp hmd ⊢
  have hp2 := OQ.and (R := fun _ N => mdS N.1 = 0) hp hmd
  refine OQ.bind (c1 := 20) (s1 := 100) (c2 := Co + 12700 + 2 * 60) (s2 := So + 553000 + 12 * 60) (K := K_L_law_37 len1 xs1) _ (kq_L_law_37 len1 xs1) hp2 (fun v N2 hP => ?_)
  obtain ⟨⟨h2, _, t, et, p3, p4, p5, p6, p7, p8, p9⟩, hm2⟩ := hP
  have e5 := (qI_inj (a := 5) (b := t) (by omega) (by omega)).mp et
  subst e5
  have en : nS N2.1 = nI 0 := by rw [p7, e1]; rfl
  rw [if_pos (by rw [p3]; exact oks_cn0 h2 en), show (((60 : Int32).toInt - (0 : Int32).toInt).toNat + 1) = 60 + 1 from by decide]
  exact e_text len1 xs1 (S0 := M0_.1) rfl rfl hO h2 (by omega) (by omega) rfl ⟨fun a => by rw [p5, e1]; rfl, by rw [p6, e1]; rfl, en, by rw [p8, e1]; rfl⟩ hm2 60 0 N2 (by omega) (txs_0 h2 _)
theorem law_sum {c s : Nat} {r : Int32 × MS × Nat × Nat} (h : OQ c s M0_ r LQ) : (adc 1 10 (adc 81 1873 r)).1 = 1 ∧ (adc 1 10 (adc 81 1873 r)).2.2.1 ≤ 82 + c + 85938 ∧ (adc 1 10 (adc 81 1873 r)).2.2.2 ≤ 1883 + s + 4156190 := by
  obtain ⟨⟨h1, h2, h3⟩, h4, h5⟩ := h
  refine ⟨h1, ?_, ?_⟩
  · show 1 + (81 + r.2.2.1) ≤ _
    omega
  · show 10 + (1873 + r.2.2.2) ≤ _
    omega
/-- the law is true on every script, and fits the room -/
theorem law_true (len1 : Nat) (xs1 : Nat → Int32) : (F_L_law len1 xs1).1 = 1 ∧ (F_L_law len1 xs1).2.2.1 ≤ 240000 ∧ (F_L_law len1 xs1).2.2.2 ≤ 5500000 := by
  unfold F_L_law
  have h := law_sum (e_start len1 xs1 (o_part len1 xs1))
  exact ⟨h.1, Nat.le_trans h.2.1 (by decide), Nat.le_trans h.2.2 (by decide)⟩
