/-! THE FIRST OBJECT'S SCRIPT -/
theorem oks_cn0 {R r d T Bd : Nat} {stk : List SV} {sv : Option SV} {M : MS} (h : OKS R r d T Bd stk sv M) (hn : nS M.1 = nI 0) : cnS M.1 = 0 := by
  obtain ⟨M1, lt, N, f, g1, g2, g3, g4, g5, g6, g7, g8, g10, g11, g12, goz⟩ := h.gss
  replace g2 : nS M.1 = nI N := g2
  have e0 : N = 0 := by
    rw [hn] at g2
    have := (qI_inj (a := 0) (b := N) (by omega) (by omega)).mp g2
    omega
  obtain ⟨e1, _⟩ := g10.2.2.2 e0
  have w := g1.cnI
  rw [e1] at w
  exact w
theorem app_full (M : MS) (sg9 : Nat → Int32) (pl9 : Int32) (ch9 : Nat) (nu9 : Nat → Int32) (lf9 c : Int32) : F_L_append (setT M sg9 (nI 60) pl9 ch9 nu9 lf9) c = (-1001, setT M sg9 (nI 60) pl9 ch9 nu9 lf9, 1, 6) := by
  obtain ⟨⟨ds, cs, mp, pk, cap, cn, sn, n, tk, av, lo, md⟩, ⟨ds_t, cs_t, mp_t, pk_t, cap_t, cn_t, sn_t, n_t, tk_t, av_t, lo_t, md_t⟩, ⟨ds_s, cs_s, mp_s, pk_s, cap_s, cn_s, sn_s, n_s, tk_s, av_s, lo_s, md_s⟩, ⟨hds, hcs, hmp, hpk, hcap, hcn, hsn, hn, htk, hav, hlo, hmd, hla, hct⟩, wc, wd, sg, ln, pl, ch, nu, wb, capw, wl, wn, isv, lf, kk, kr, kd, kr2, kd2, capE, mc, PP⟩ := M
  have e : F_X10_append sg9 (nI 60) c = (5, 0, sg9, nI 60) := by
    unfold F_X10_append
    rw [if_neg (show ¬ F_X3_isFull (nI 60) = 0 from by decide)]
  unfold F_L_append
  rw [show FF_X10_append (setT ((ds, cs, mp, pk, cap, cn, sn, n, tk, av, lo, md), (ds_t, cs_t, mp_t, pk_t, cap_t, cn_t, sn_t, n_t, tk_t, av_t, lo_t, md_t), (ds_s, cs_s, mp_s, pk_s, cap_s, cn_s, sn_s, n_s, tk_s, av_s, lo_s, md_s), (hds, hcs, hmp, hpk, hcap, hcn, hsn, hn, htk, hav, hlo, hmd, hla, hct), wc, wd, sg, ln, pl, ch, nu, wb, capw, wl, wn, isv, lf, kk, kr, kd, kr2, kd2, capE, mc, PP) sg9 (nI 60) pl9 ch9 nu9 lf9) c = F_X10_append sg9 (nI 60) c from Eq.refl _, e]
  unfold K_L_append_2
  rw [if_neg (show ¬ (5 : Nat) = 0 from by decide)]
  exact (show (-1001, ((ds, cs, mp, pk, cap, cn, sn, n, tk, av, lo, md), (ds_t, cs_t, mp_t, pk_t, cap_t, cn_t, sn_t, n_t, tk_t, av_t, lo_t, md_t), (ds_s, cs_s, mp_s, pk_s, cap_s, cn_s, sn_s, n_s, tk_s, av_s, lo_s, md_s), (hds, hcs, hmp, hpk, hcap, hcn, hsn, hn, htk, hav, hlo, hmd, hla, hct), wc, wd, sg9, nI 60, pl9, ch9, nu9, wb, capw, wl, wn, isv, lf9, kk, kr, kd, kr2, kd2, capE, mc, PP), 1, 6) = (-1001, ((ds, cs, mp, pk, cap, cn, sn, n, tk, av, lo, md), (ds_t, cs_t, mp_t, pk_t, cap_t, cn_t, sn_t, n_t, tk_t, av_t, lo_t, md_t), (ds_s, cs_s, mp_s, pk_s, cap_s, cn_s, sn_s, n_s, tk_s, av_s, lo_s, md_s), (hds, hcs, hmp, hpk, hcap, hcn, hsn, hn, htk, hav, hlo, hmd, hla, hct), wc, wd, sg9, nI 60, pl9, ch9, nu9, wb, capw, wl, wn, isv, lf9, kk, kr, kd, kr2, kd2, capE, mc, PP), 1, 6) from Eq.refl _)
theorem acc_10 (M : MS) (sg9 : Nat → Int32) (ln9 pl9 : Int32) (ch9 : Nat) (nu9 : Nat → Int32) (lf9 : Int32) : F_L_account (setT M sg9 ln9 pl9 ch9 nu9 lf9) 10 = (ln9, setT M sg9 ln9 pl9 ch9 nu9 lf9, 1, 6) := by
  obtain ⟨⟨ds, cs, mp, pk, cap, cn, sn, n, tk, av, lo, md⟩, ⟨ds_t, cs_t, mp_t, pk_t, cap_t, cn_t, sn_t, n_t, tk_t, av_t, lo_t, md_t⟩, ⟨ds_s, cs_s, mp_s, pk_s, cap_s, cn_s, sn_s, n_s, tk_s, av_s, lo_s, md_s⟩, ⟨hds, hcs, hmp, hpk, hcap, hcn, hsn, hn, htk, hav, hlo, hmd, hla, hct⟩, wc, wd, sg, ln, pl, ch, nu, wb, capw, wl, wn, isv, lf, kk, kr, kd, kr2, kd2, capE, mc, PP⟩ := M
  exact (show (ln9, ((ds, cs, mp, pk, cap, cn, sn, n, tk, av, lo, md), (ds_t, cs_t, mp_t, pk_t, cap_t, cn_t, sn_t, n_t, tk_t, av_t, lo_t, md_t), (ds_s, cs_s, mp_s, pk_s, cap_s, cn_s, sn_s, n_s, tk_s, av_s, lo_s, md_s), (hds, hcs, hmp, hpk, hcap, hcn, hsn, hn, htk, hav, hlo, hmd, hla, hct), wc, wd, sg9, ln9, pl9, ch9, nu9, wb, capw, wl, wn, isv, lf9, kk, kr, kd, kr2, kd2, capE, mc, PP), 1, 6) = (ln9, ((ds, cs, mp, pk, cap, cn, sn, n, tk, av, lo, md), (ds_t, cs_t, mp_t, pk_t, cap_t, cn_t, sn_t, n_t, tk_t, av_t, lo_t, md_t), (ds_s, cs_s, mp_s, pk_s, cap_s, cn_s, sn_s, n_s, tk_s, av_s, lo_s, md_s), (hds, hcs, hmp, hpk, hcap, hcn, hsn, hn, htk, hav, hlo, hmd, hla, hct), wc, wd, sg9, ln9, pl9, ch9, nu9, wb, capw, wl, wn, isv, lf9, kk, kr, kd, kr2, kd2, capE, mc, PP), 1, 6) from Eq.refl _)
/-- a text that no command begins -/
theorem oq_fault {R r d T Bd : Nat} {stk : List SV} {sv : Option SV} {M : MS} (h : OKS R r d T Bd stk sv M) {sg9 : Nat → Int32} {n9 : Nat} (hn9 : n9 ≤ 60) (h0 : 0 < n9) (hb : F_X2_beginningWith (sg9 0) = 6) (pl9 : Int32) (ch9 : Nat) (nu9 : Nat → Int32) (lf9 : Int32) : OQ 4 24 (setT M sg9 (nI n9) pl9 ch9 nu9 lf9) (F_L_commands (setT M sg9 (nI n9) pl9 ch9 nu9 lf9)) (fun v N => v = -1001 ∧ N = setT M sg9 0 0 ch9 nu9 0) := by
  have hp := setT_phs M sg9 (nI n9) pl9 ch9 nu9 lf9
  have hp2 := setT_phs M sg9 0 0 ch9 nu9 0
  obtain ⟨C, S, e, hC, hS⟩ : ∃ C S, F_L_commands (setT M sg9 (nI n9) pl9 ch9 nu9 lf9) = (-1001, setT M sg9 0 0 ch9 nu9 0, C, S) ∧ C ≤ 4 ∧ S ≤ 24 := by
    obtain ⟨⟨ds, cs, mp, pk, cap, cn, sn, n, tk, av, lo, md⟩, ⟨ds_t, cs_t, mp_t, pk_t, cap_t, cn_t, sn_t, n_t, tk_t, av_t, lo_t, md_t⟩, ⟨ds_s, cs_s, mp_s, pk_s, cap_s, cn_s, sn_s, n_s, tk_s, av_s, lo_s, md_s⟩, ⟨hds, hcs, hmp, hpk, hcap, hcn, hsn, hn, htk, hav, hlo, hmd, hla, hct⟩, wc, wd, sg, ln, pl, ch, nu, wb, capw, wl, wn, isv, lf, kk, kr, kd, kr2, kd2, capE, mc, PP⟩ := M
    exact cmd_fault_eq (ff_none (sg := sg9) (n := n9) hn9 h0 hb ch9 nu9) (by decide)
  exact OQ.eq e ⟨rfl, rfl⟩ hC hS (hp2.1.trans hp.1.symm) (hp2.2.trans hp.2.symm)
theorem setT_fp (M : MS) (sg9 : Nat → Int32) (ln9 pl9 : Int32) (ch9 : Nat) (nu9 : Nat → Int32) (lf9 : Int32) : FF_X10_faultPosition (setT M sg9 ln9 pl9 ch9 nu9 lf9) = lf9 := by
  obtain ⟨⟨ds, cs, mp, pk, cap, cn, sn, n, tk, av, lo, md⟩, ⟨ds_t, cs_t, mp_t, pk_t, cap_t, cn_t, sn_t, n_t, tk_t, av_t, lo_t, md_t⟩, ⟨ds_s, cs_s, mp_s, pk_s, cap_s, cn_s, sn_s, n_s, tk_s, av_s, lo_s, md_s⟩, ⟨hds, hcs, hmp, hpk, hcap, hcn, hsn, hn, htk, hav, hlo, hmd, hla, hct⟩, wc, wd, sg, ln, pl, ch, nu, wb, capw, wl, wn, isv, lf, kk, kr, kd, kr2, kd2, capE, mc, PP⟩ := M
  rfl
/-- the survey of the first object -/
def EI (S : SV) (cs : Nat → Int32) (k : Nat) : Prop := (∀ a, S.1 a = 0) ∧ S.2.1 = cs ∧ nS S = nI k ∧ (tkS S).toInt = 5
theorem tk5 {S : SV} (h : (tkS S).toInt = 5) : tkS S = 5 := qI_eq (n := 5) (by omega) h
/-- the stack behind k canals -/
def ES (k : Nat) (stk : List SV) : Prop := stk.length = min 8 (7 + k) ∧ (∀ i S, i < k → stk[i]? = some S → EI S (csE (k - 1 - i)) 6) ∧ ∀ S, stk[k]? = some S → nS S = nI 5
theorem es_push {k : Nat} {stk : List SV} {S : SV} (hk : k ≤ 6) (h : ES k stk) (hS : EI S (csE k) 6) : ES (k + 1) (S :: stk.take 7) := by
  obtain ⟨h1, h2, h3⟩ := h
  refine ⟨by rw [List.length_cons, List.length_take, h1]; omega, fun i U hi hU => ?_, fun U hU => ?_⟩
  · cases i with
    | zero =>
      rw [List.getElem?_cons_zero] at hU
      have hU := Option.some.inj hU
      subst hU
      exact hS
    | succ i =>
      rw [List.getElem?_cons_succ, List.getElem?_take_of_lt (by omega)] at hU
      rw [show k + 1 - 1 - (i + 1) = k - 1 - i by omega]
      exact h2 i U (by omega) hU
  · rw [List.getElem?_cons_succ, List.getElem?_take_of_lt (by omega)] at hU
    exact h3 U hU
set_option maxRecDepth 100000 in
theorem e_pass (len1 : Nat) (xs1 : Nat → Int32) {r d T Bd : Nat} {stk : List SV} {S0 : SV} {N : MS} (h : OKS 10 r d T Bd stk (some S0) N) (hr : r ≤ 8) (hd : d ≤ 90000) (hT : T + 300 < 500000) (hB : Bd ≤ 800) (hE : ES 6 stk) (hI : EI N.1 (csE 6) 6) (hS : nS S0 = 0) (hSt : tkS S0 = 0) {Co So : Nat} {Q : Int32 → MS → Prop} (hO : OQ Co So M0_ (K_L_law_429 len1 xs1 (F_L_makes M0_ len1 xs1)) Q) :
    OQ (Co + 12100) (So + 551000) N (K_L_law_242 len1 xs1 (F_L_pass N 99)) Q := by
  refine OQ.mono (c := Co + 12000 + 1 + 1 + 20) (s := So + 550000 + 6 + 6 + 100) ?_ (by omega) (by omega) (fun _ _ z => z)
  refine OQ.bind (c1 := 20) (s1 := 100) (c2 := Co + 12000 + 1 + 1) (s2 := So + 550000 + 6 + 6) (K := K_L_law_242 len1 xs1) _ (kq_L_law_242 len1 xs1) (oq_pass 99 h (by omega) (by omega) (by omega) (by omega) (by omega) (by rw [ag5_eq]; decide)) (fun v N1 hP => ?_)
  obtain ⟨p1, p2, t, et, p3, p4, p5, p6, p7, p8, p9⟩ := hP
  have e99 : t < 2 ^ 31 → t = 99 := fun ht => ((qI_inj (a := 99) (b := t) (by omega) ht).mp et).symm
  have ht : (tkS N1.1).toInt = 104 := by
    have e := e99 (by omega)
    subst e
    have w := hI.2.2.2
    omega
  have ht2 : tkS N1.1 = 104 := qI_eq (n := 104) (by omega) ht
  rw [if_neg (nlt_of p4), acc_0, ht2]
  refine OQ.bind (c1 := 1) (s1 := 6) (c2 := Co + 12000 + 1) (s2 := So + 550000 + 6) (K := K_L_law_250 len1 xs1) _ (kq_L_law_250 len1 xs1) (oq_q (Eq.refl (104, N1, 1, 6))) (fun v N9 hP => ?_)
  obtain ⟨rfl, hN9⟩ := hP
  rw [hN9, if_pos rfl, acc_0, ht2]
  refine OQ.bind (c1 := 1) (s1 := 6) (c2 := Co + 12000) (s2 := So + 550000) (K := K_L_law_262 len1 xs1) _ (kq_L_law_262 len1 xs1) (oq_q (Eq.refl (104, N1, 1, 6))) (fun v N9 hP => ?_)
  obtain ⟨rfl, hN9⟩ := hP
  rw [hN9]
  obtain ⟨l1, l2, l3⟩ := hE
  have hlen : stk.length = 8 := by rw [l1]; rfl
  match stk, hlen, l2, l3, p1 with
  | [a0, a1, a2, a3, a4, a5, a6, a7], _, l2, l3, p1 =>
    have i0 := l2 0 a0 (by omega) rfl
    have i5 := l2 5 a5 (by omega) rfl
    have i6 := l3 a6 rfl
    exact e_undo len1 xs1 (s0 := N.1) (s1 := a0) (s2 := a1) (s3 := a2) (s4 := a3) (s5 := a4) (s6 := a5) (s7 := a6) (OKS.mono p1 (Nat.le_refl _) (Nat.le_refl _) (Nat.le_refl _) (Nat.le_refl _) (by omega)) (by omega) (by omega) (by omega) (by omega) (tk5 hI.2.2.2) i0.2.1 i0.2.2.1 i5.2.1 i5.2.2.1 i6 hS hSt hO
/-! comes, canals -/
set_option maxRecDepth 100000 in
theorem e_canals (len1 : Nat) (xs1 : Nat → Int32) {S0 : SV} (hS : nS S0 = 0) (hSt : tkS S0 = 0) {Co So : Nat} {Q : Int32 → MS → Prop} (hO : OQ Co So M0_ (K_L_law_429 len1 xs1 (F_L_makes M0_ len1 xs1)) Q) : ∀ (m k d Bd : Nat) (stk : List SV) (N : MS), k + m = 6 → OKS 10 (2 + k) d 99 Bd stk (some S0) N → d + 2 * m ≤ 80000 → Bd + 6 * m ≤ 800 → ES k stk → EI N.1 (csE k) 6 → mdS N.1 = nI (6 + 2 * k) →
    OQ (Co + 12110 + 30 * m) (So + 551100 + 110 * m) N (L_L_law_186 len1 xs1 (m + 1) (nI k) N) Q := by
  intro m
  induction m with
  | zero =>
    intro k d Bd stk N hk h hd hB hE hI hm
    have ek : k = 6 := by omega
    subst ek
    rw [show L_L_law_186 len1 xs1 (0 + 1) (nI 6) N = B_L_law_186 len1 xs1 (L_L_law_186 len1 xs1 0) (nI 6) N from rfl]
    unfold B_L_law_186
    rw [if_pos (by decide), acc_7, hm]
    refine OQ.mono (c := Co + 12100 + 1 + 1) (s := So + 551000 + 6 + 6) ?_ (by omega) (by omega) (fun _ _ z => z)
    refine OQ.bind (c1 := 1) (s1 := 6) (c2 := Co + 12100 + 1) (s2 := So + 551000 + 6) (K := K_L_law_220 len1 xs1) _ (kq_L_law_220 len1 xs1) (oq_q (Eq.refl (nI (6 + 2 * 6), N, 1, 6))) (fun v N9 hP => ?_)
    obtain ⟨rfl, hN9⟩ := hP
    have hl : hctH N.2.2.2.1 = 8 := by
      rw [h.hct.1, hE.1]
      rfl
    rw [hN9, if_pos (by decide), acc_9, hl]
    refine OQ.bind (c1 := 1) (s1 := 6) (c2 := Co + 12100) (s2 := So + 551000) (K := K_L_law_231 len1 xs1) _ (kq_L_law_231 len1 xs1) (oq_q (Eq.refl (8, N, 1, 6))) (fun v N9 hP => ?_)
    obtain ⟨rfl, hN9⟩ := hP
    rw [hN9, if_pos rfl]
    exact e_pass len1 xs1 h (by omega) (by omega) (by omega) (by omega) hE hI hS hSt hO
  | succ m ih =>
    intro k d Bd stk N hk h hd hB hE hI hm
    rw [show L_L_law_186 len1 xs1 (m + 1 + 1) (nI k) N = B_L_law_186 len1 xs1 (L_L_law_186 len1 xs1 (m + 1)) (nI k) N from rfl]
    unfold B_L_law_186
    have hkk : ∀ i : Fin 6, rmI (nI i.val + 1) 6 = nI ((i.val + 1) % 6) ∧ (1 : Int32) + nI i.val = nI (1 + i.val) := by decide +kernel
    have hk6 : k < 6 := by omega
    rw [if_neg (show ¬ (6 : Int32) ≤ nI k by rw [show (6 : Int32) = nI 6 from rfl, qI_le (by omega) (by omega)]; omega), (hkk ⟨k, hk6⟩).1, (hkk ⟨k, hk6⟩).2]
    have hmod : (k + 1) % 6 < 6 := Nat.mod_lt _ (by omega)
    have hne : ¬ k = (k + 1) % 6 := by omega
    have hc0 : csE k (6 * k + (k + 1) % 6) = 0 := csE_at ⟨k, hk6⟩
    have hag : (F_X8_against_ad1 N.1.2.1 (nS N.1) (nI k) (nI ((k + 1) % 6)) (nI (1 + k))).1 = 0 := by
      rw [hI.2.2.1, ag1_nI (by omega) hk6 hmod (by omega) (by omega), if_neg hne, hI.2.1, hc0, if_neg (fun z => by have := (qI_inj (a := 0) (b := 1 + k) (by omega) (by omega)).mp z; omega)]
    refine OQ.mono (c := Co + 12110 + 30 * m + 20) (s := So + 551100 + 110 * m + 100) ?_ (by omega) (by omega) (fun _ _ z => z)
    refine OQ.bind (c1 := 20) (s1 := 100) (c2 := Co + 12110 + 30 * m) (s2 := So + 551100 + 110 * m) (K := K_L_law_203 (nI k) (L_L_law_186 len1 xs1 (m + 1))) _ (kq_L_law_203 (nI k) (L_L_law_186 len1 xs1 (m + 1))) (oq_canal (nI k) (nI ((k + 1) % 6)) (nI (1 + k)) h (by omega) (by omega) (by omega) (by omega) (by omega) hag) (fun v N1 hP => ?_)
    obtain ⟨p1, p2, x, y, hx, hy, hxy, ex, ey, p3, p4, p5, p6, p7, p8, p9⟩ := hP
    have e1 := (qI_inj (a := k) (b := x) (by omega) (by omega)).mp ex
    have e2 := (qI_inj (a := (k + 1) % 6) (b := y) (by omega) (by omega)).mp ey
    subst e1 e2
    have ev : v = 0 := by rw [p3, hI.2.1]; exact hc0
    rw [if_pos ev, qI_succ (by omega)]
    have hmd : mdS N1.1 = nI (6 + 2 * (k + 1)) := by
      rw [p9 (by rw [hI.1, hI.1]), hm, qI_succ (by omega), qI_succ (by omega)]
      congr 1
    exact ih (k + 1) (d + 2) (Bd + 6) (N.1 :: stk.take 7) N1 (by omega) (OKS.mono p1 (by omega) (by omega) (by omega) (by omega) (by omega)) (by omega) (by omega) (es_push (by omega) hE hI) ⟨fun a => by rw [p5]; exact hI.1 a, by rw [p6, hI.2.1]; rfl, by rw [p7]; exact hI.2.2.1, by rw [p8]; exact hI.2.2.2⟩ hmd
set_option maxRecDepth 100000 in
theorem e_comes (len1 : Nat) (xs1 : Nat → Int32) {S0 : SV} (hS : nS S0 = 0) (hSt : tkS S0 = 0) {Co So : Nat} {Q : Int32 → MS → Prop} (hO : OQ Co So M0_ (K_L_law_429 len1 xs1 (F_L_makes M0_ len1 xs1)) Q) : ∀ (m k d Bd : Nat) (stk : List SV) (N : MS), k + m = 6 → OKS 10 2 d 99 Bd stk (some S0) N → d + m ≤ 70000 → Bd + 6 * m ≤ 700 → stk.length = 1 + k → (∀ S, 0 < k → stk[0]? = some S → nS S = nI (k - 1)) → EI N.1 (csE 0) k → mdS N.1 = nI k →
    OQ (Co + 12400 + 30 * m) (So + 552200 + 110 * m) N (L_L_law_129 len1 xs1 (m + 1) (nI k) N) Q := by
  intro m
  induction m with
  | zero =>
    intro k d Bd stk N hk h hd hB hl hE hI hm
    have ek : k = 6 := by omega
    subst ek
    rw [show L_L_law_129 len1 xs1 (0 + 1) (nI 6) N = B_L_law_129 len1 xs1 (L_L_law_129 len1 xs1 0) (nI 6) N from rfl]
    unfold B_L_law_129
    rw [if_pos (by decide)]
    refine OQ.mono (c := Co + 12110 + 30 * 6 + 1 + 4 + 20) (s := So + 551100 + 110 * 6 + 6 + 24 + 100) ?_ (by omega) (by omega) (fun _ _ z => z)
    refine OQ.bind (c1 := 20) (s1 := 100) (c2 := Co + 12110 + 30 * 6 + 1 + 4) (s2 := So + 551100 + 110 * 6 + 6 + 24) (K := K_L_law_152 len1 xs1) _ (kq_L_law_152 len1 xs1) (ref_come N (k9 := 2) (k8 := 6) (by rw [hI.2.2.1]; decide)) (fun v N1 hP => ?_)
    obtain ⟨rfl, rfl⟩ := hP
    rw [if_pos rfl]
    refine OQ.bind (c1 := 4) (s1 := 24) (c2 := Co + 12110 + 30 * 6 + 1) (s2 := So + 551100 + 110 * 6 + 6) (K := K_L_law_165 len1 xs1) _ (kq_L_law_165 len1 xs1) (oq_is N 2 6) (fun v N1 hP => ?_)
    obtain ⟨rfl, rfl⟩ := hP
    rw [if_neg (by decide)]
    have h2 := OKS.setK h 2 6
    have hl2 : hctH (setK N 2 6).2.2.2.1 = 7 := by
      rw [h2.hct.1, hl]
      rfl
    rw [acc_9, hl2]
    refine OQ.bind (c1 := 1) (s1 := 6) (c2 := Co + 12110 + 30 * 6) (s2 := So + 551100 + 110 * 6) (K := K_L_law_174 len1 xs1) _ (kq_L_law_174 len1 xs1) (oq_q (Eq.refl (7, setK N 2 6, 1, 6))) (fun v N9 hP => ?_)
    obtain ⟨rfl, hN9⟩ := hP
    rw [hN9, if_pos rfl, show (((6 : Int32).toInt - (0 : Int32).toInt).toNat + 1) = 6 + 1 from by decide]
    exact e_canals len1 xs1 hS hSt hO 6 0 d Bd stk (setK N 2 6) (by omega) h2 (by omega) (by omega) ⟨by rw [hl]; rfl, fun i S hi => absurd hi (Nat.not_lt_zero _), fun S hU => hE S (by omega) hU⟩ (by rw [setK_1]; exact hI) (by rw [setK_1]; exact hm)
  | succ m ih =>
    intro k d Bd stk N hk h hd hB hl hE hI hm
    rw [show L_L_law_129 len1 xs1 (m + 1 + 1) (nI k) N = B_L_law_129 len1 xs1 (L_L_law_129 len1 xs1 (m + 1)) (nI k) N from rfl]
    unfold B_L_law_129
    rw [if_neg (show ¬ (6 : Int32) ≤ nI k by rw [show (6 : Int32) = nI 6 from rfl, qI_le (by omega) (by omega)]; omega)]
    refine OQ.mono (c := Co + 12400 + 30 * m + 20) (s := So + 552200 + 110 * m + 100) ?_ (by omega) (by omega) (fun _ _ z => z)
    refine OQ.bind (c1 := 20) (s1 := 100) (c2 := Co + 12400 + 30 * m) (s2 := So + 552200 + 110 * m) (K := K_L_law_136 (nI k) (L_L_law_129 len1 xs1 (m + 1))) _ (kq_L_law_136 (nI k) (L_L_law_129 len1 xs1 (m + 1))) (oq_come h (by omega) (by omega) (by omega) (by omega) (by omega) (by omega) (by rw [hI.2.2.1, ag0_eq, if_neg (show ¬ (6 : Int32) ≤ nI k by rw [show (6 : Int32) = nI 6 from rfl, qI_le (by omega) (by omega)]; omega)])) (fun v N1 hP => ?_)
    obtain ⟨p1, p2, p3, p4, p5, p6, p7, p8⟩ := hP
    rw [if_pos (by rw [p3, hI.2.2.1]), qI_succ (by omega)]
    exact ih (k + 1) (d + 1) (Bd + 6) (N.1 :: stk.take 7) N1 (by omega) (OKS.mono p1 (by omega) (by omega) (by omega) (by omega) (by omega)) (by omega) (by omega) (by rw [List.length_cons, List.length_take, hl]; omega) (fun S _ hU => by
      rw [List.getElem?_cons_zero] at hU
      have hU := Option.some.inj hU
      subst hU
      exact hI.2.2.1) ⟨fun a => by rw [p4]; exact hI.1 a, by rw [p5]; exact hI.2.1, by rw [p6, hI.2.2.1, qI_succ (by omega)], by rw [p7]; exact hI.2.2.2⟩ (by rw [p8, hm, qI_succ (by omega)])
