/-! THE TEXT BUFFER IN THE WHOLE STATE; COMMANDS TRIED -/
def setT : MS → (Nat → Int32) → Int32 → Int32 → Nat → (Nat → Int32) → Int32 → MS
  | ((ds, cs, mp, pk, cap, cn, sn, n, tk, av, lo, md), (ds_t, cs_t, mp_t, pk_t, cap_t, cn_t, sn_t, n_t, tk_t, av_t, lo_t, md_t), (ds_s, cs_s, mp_s, pk_s, cap_s, cn_s, sn_s, n_s, tk_s, av_s, lo_s, md_s), (hds, hcs, hmp, hpk, hcap, hcn, hsn, hn, htk, hav, hlo, hmd, hla, hct), wc, wd, sg, ln, pl, ch, nu, wb, capw, wl, wn, isv, lf, kk, kr, kd, kr2, kd2, capE, mc, PP), sg', ln', pl', ch', nu', lf' => ((ds, cs, mp, pk, cap, cn, sn, n, tk, av, lo, md), (ds_t, cs_t, mp_t, pk_t, cap_t, cn_t, sn_t, n_t, tk_t, av_t, lo_t, md_t), (ds_s, cs_s, mp_s, pk_s, cap_s, cn_s, sn_s, n_s, tk_s, av_s, lo_s, md_s), (hds, hcs, hmp, hpk, hcap, hcn, hsn, hn, htk, hav, hlo, hmd, hla, hct), wc, wd, sg', ln', pl', ch', nu', wb, capw, wl, wn, isv, lf', kk, kr, kd, kr2, kd2, capE, mc, PP)
theorem OKS.setT {R r d T Bd : Nat} {stk : List SV} {sv : Option SV} {M : MS} (h : OKS R r d T Bd stk sv M) (sg : Nat → Int32) (pl : Int32) (ch : Nat) (nu : Nat → Int32) (lf : Int32) : OKS R r d T Bd stk sv (setT M sg 0 pl ch nu lf) := by
  obtain ⟨⟨ds, cs, mp, pk, cap, cn, sn, n, tk, av, lo, md⟩, ⟨ds_t, cs_t, mp_t, pk_t, cap_t, cn_t, sn_t, n_t, tk_t, av_t, lo_t, md_t⟩, ⟨ds_s, cs_s, mp_s, pk_s, cap_s, cn_s, sn_s, n_s, tk_s, av_s, lo_s, md_s⟩, ⟨hds, hcs, hmp, hpk, hcap, hcn, hsn, hn, htk, hav, hlo, hmd, hla, hct⟩, wc, wd, sg, ln, pl, ch, nu, wb, capw, wl, wn, isv, lf, kk, kr, kd, kr2, kd2, capE, mc, PP⟩ := M
  obtain ⟨h1, h2, h3, h4, h5, h6, h7, h8, h9, h10, h11⟩ := h
  exact ⟨h1, h2, h3, h4, h5, h6, h7, h8, h9, h10, rfl⟩
theorem setT_phs (M : MS) (sg : Nat → Int32) (ln pl : Int32) (ch : Nat) (nu : Nat → Int32) (lf : Int32) : PHS (setT M sg ln pl ch nu lf) = PHS M ∧ PHK (setT M sg ln pl ch nu lf) = PHK M := by
  obtain ⟨⟨ds, cs, mp, pk, cap, cn, sn, n, tk, av, lo, md⟩, ⟨ds_t, cs_t, mp_t, pk_t, cap_t, cn_t, sn_t, n_t, tk_t, av_t, lo_t, md_t⟩, ⟨ds_s, cs_s, mp_s, pk_s, cap_s, cn_s, sn_s, n_s, tk_s, av_s, lo_s, md_s⟩, ⟨hds, hcs, hmp, hpk, hcap, hcn, hsn, hn, htk, hav, hlo, hmd, hla, hct⟩, wc, wd, sg, ln, pl, ch, nu, wb, capw, wl, wn, isv, lf, kk, kr, kd, kr2, kd2, capE, mc, PP⟩ := M
  exact ⟨(show 2 * (cap + cap_t + cap_s + hsum hcap) + 2 * capw + 4 * capE + 10 * PP.length = 2 * (cap + cap_t + cap_s + hsum hcap) + 2 * capw + 4 * capE + 10 * PP.length from Eq.refl _), (show 5 * (cap + cap_t + cap_s + hsum hcap) + 320 * capw + 64 * capE + 640 * PP.length = 5 * (cap + cap_t + cap_s + hsum hcap) + 320 * capw + 64 * capE + 640 * PP.length from Eq.refl _)⟩
theorem setT_1 (M : MS) (sg : Nat → Int32) (ln pl : Int32) (ch : Nat) (nu : Nat → Int32) (lf : Int32) : (setT M sg ln pl ch nu lf).1 = M.1 ∧ arch (setT M sg ln pl ch nu lf) = arch M := by
  obtain ⟨⟨ds, cs, mp, pk, cap, cn, sn, n, tk, av, lo, md⟩, ⟨ds_t, cs_t, mp_t, pk_t, cap_t, cn_t, sn_t, n_t, tk_t, av_t, lo_t, md_t⟩, ⟨ds_s, cs_s, mp_s, pk_s, cap_s, cn_s, sn_s, n_s, tk_s, av_s, lo_s, md_s⟩, ⟨hds, hcs, hmp, hpk, hcap, hcn, hsn, hn, htk, hav, hlo, hmd, hla, hct⟩, wc, wd, sg, ln, pl, ch, nu, wb, capw, wl, wn, isv, lf, kk, kr, kd, kr2, kd2, capE, mc, PP⟩ := M
  exact ⟨(show (ds, cs, mp, pk, cap, cn, sn, n, tk, av, lo, md) = (ds, cs, mp, pk, cap, cn, sn, n, tk, av, lo, md) from Eq.refl _), (show PP = PP from Eq.refl _)⟩
/-- n signs of a text are in the buffer -/
def TXS (M : MS) (n : Nat) (tx : Nat → Int32) (N : MS) : Prop := ∃ sg pl ch nu lf, N = setT M sg (nI n) pl ch nu lf ∧ ∀ j, j < n → sg j = tx j
theorem txs_0 {R r d T Bd : Nat} {stk : List SV} {sv : Option SV} {M : MS} (h : OKS R r d T Bd stk sv M) (tx : Nat → Int32) : TXS M 0 tx M := by
  obtain ⟨⟨ds, cs, mp, pk, cap, cn, sn, n, tk, av, lo, md⟩, ⟨ds_t, cs_t, mp_t, pk_t, cap_t, cn_t, sn_t, n_t, tk_t, av_t, lo_t, md_t⟩, ⟨ds_s, cs_s, mp_s, pk_s, cap_s, cn_s, sn_s, n_s, tk_s, av_s, lo_s, md_s⟩, ⟨hds, hcs, hmp, hpk, hcap, hcn, hsn, hn, htk, hav, hlo, hmd, hla, hct⟩, wc, wd, sg, ln, pl, ch, nu, wb, capw, wl, wn, isv, lf, kk, kr, kd, kr2, kd2, capE, mc, PP⟩ := M
  obtain ⟨h1, h2, h3, h4, h5, h6, h7, h8, h9, h10, h11⟩ := h
  subst h11
  exact ⟨sg, pl, ch, nu, lf, (show ((ds, cs, mp, pk, cap, cn, sn, n, tk, av, lo, md), (ds_t, cs_t, mp_t, pk_t, cap_t, cn_t, sn_t, n_t, tk_t, av_t, lo_t, md_t), (ds_s, cs_s, mp_s, pk_s, cap_s, cn_s, sn_s, n_s, tk_s, av_s, lo_s, md_s), (hds, hcs, hmp, hpk, hcap, hcn, hsn, hn, htk, hav, hlo, hmd, hla, hct), wc, wd, sg, 0, pl, ch, nu, wb, capw, wl, wn, isv, lf, kk, kr, kd, kr2, kd2, capE, mc, PP) = ((ds, cs, mp, pk, cap, cn, sn, n, tk, av, lo, md), (ds_t, cs_t, mp_t, pk_t, cap_t, cn_t, sn_t, n_t, tk_t, av_t, lo_t, md_t), (ds_s, cs_s, mp_s, pk_s, cap_s, cn_s, sn_s, n_s, tk_s, av_s, lo_s, md_s), (hds, hcs, hmp, hpk, hcap, hcn, hsn, hn, htk, hav, hlo, hmd, hla, hct), wc, wd, sg, nI 0, pl, ch, nu, wb, capw, wl, wn, isv, lf, kk, kr, kd, kr2, kd2, capE, mc, PP) from Eq.refl _), fun j hj => absurd hj (Nat.not_lt_zero _)⟩
theorem app_eq (M : MS) (sg9 : Nat → Int32) {n9 : Nat} (hn9 : n9 < 60) (pl9 : Int32) (ch9 : Nat) (nu9 : Nat → Int32) (lf9 c : Int32) : F_L_append (setT M sg9 (nI n9) pl9 ch9 nu9 lf9) c = (nI (n9 + 1), setT M (upd sg9 n9 (ci_ c)) (nI (n9 + 1)) pl9 ch9 nu9 lf9, 1, 6) := by
  obtain ⟨⟨ds, cs, mp, pk, cap, cn, sn, n, tk, av, lo, md⟩, ⟨ds_t, cs_t, mp_t, pk_t, cap_t, cn_t, sn_t, n_t, tk_t, av_t, lo_t, md_t⟩, ⟨ds_s, cs_s, mp_s, pk_s, cap_s, cn_s, sn_s, n_s, tk_s, av_s, lo_s, md_s⟩, ⟨hds, hcs, hmp, hpk, hcap, hcn, hsn, hn, htk, hav, hlo, hmd, hla, hct⟩, wc, wd, sg, ln, pl, ch, nu, wb, capw, wl, wn, isv, lf, kk, kr, kd, kr2, kd2, capE, mc, PP⟩ := M
  have e : F_X10_append sg9 (nI n9) c = (0, nI (n9 + 1), upd sg9 n9 (ci_ c), nI (n9 + 1)) := by
    unfold F_X10_append F_X3_write F_X3_isFull
    have c1 : nI n9 < 60 := by rw [show (60 : Int32) = nI 60 from rfl, qI_lt (by omega) (by omega)]; exact hn9
    rw [if_pos c1, if_pos rfl, if_pos rfl, qI_ix (by omega), qI_succ (by omega)]
  unfold F_L_append
  rw [show FF_X10_append (setT ((ds, cs, mp, pk, cap, cn, sn, n, tk, av, lo, md), (ds_t, cs_t, mp_t, pk_t, cap_t, cn_t, sn_t, n_t, tk_t, av_t, lo_t, md_t), (ds_s, cs_s, mp_s, pk_s, cap_s, cn_s, sn_s, n_s, tk_s, av_s, lo_s, md_s), (hds, hcs, hmp, hpk, hcap, hcn, hsn, hn, htk, hav, hlo, hmd, hla, hct), wc, wd, sg, ln, pl, ch, nu, wb, capw, wl, wn, isv, lf, kk, kr, kd, kr2, kd2, capE, mc, PP) sg9 (nI n9) pl9 ch9 nu9 lf9) c = F_X10_append sg9 (nI n9) c from Eq.refl _, e]
  unfold K_L_append_2
  rw [if_pos (show (0 : Nat) = 0 from Eq.refl _)]
  exact (show (nI (n9 + 1), ((ds, cs, mp, pk, cap, cn, sn, n, tk, av, lo, md), (ds_t, cs_t, mp_t, pk_t, cap_t, cn_t, sn_t, n_t, tk_t, av_t, lo_t, md_t), (ds_s, cs_s, mp_s, pk_s, cap_s, cn_s, sn_s, n_s, tk_s, av_s, lo_s, md_s), (hds, hcs, hmp, hpk, hcap, hcn, hsn, hn, htk, hav, hlo, hmd, hla, hct), wc, wd, upd sg9 n9 (ci_ c), nI (n9 + 1), pl9, ch9, nu9, wb, capw, wl, wn, isv, lf9, kk, kr, kd, kr2, kd2, capE, mc, PP), 1, 6) = (nI (n9 + 1), ((ds, cs, mp, pk, cap, cn, sn, n, tk, av, lo, md), (ds_t, cs_t, mp_t, pk_t, cap_t, cn_t, sn_t, n_t, tk_t, av_t, lo_t, md_t), (ds_s, cs_s, mp_s, pk_s, cap_s, cn_s, sn_s, n_s, tk_s, av_s, lo_s, md_s), (hds, hcs, hmp, hpk, hcap, hcn, hsn, hn, htk, hav, hlo, hmd, hla, hct), wc, wd, upd sg9 n9 (ci_ c), nI (n9 + 1), pl9, ch9, nu9, wb, capw, wl, wn, isv, lf9, kk, kr, kd, kr2, kd2, capE, mc, PP), 1, 6) from Eq.refl _)
theorem oq_append {M N : MS} {n : Nat} {tx : Nat → Int32} (h : TXS M n tx N) (hn : n < 60) {c : Int32} (hc : ci_ c = tx n) : OQ 1 6 N (F_L_append N c) (fun v N' => v = nI (n + 1) ∧ TXS M (n + 1) tx N') := by
  obtain ⟨sg, pl, ch, nu, lf, rfl, h2⟩ := h
  refine OQ.eq (app_eq M sg hn pl ch nu lf c) ⟨rfl, _, _, _, _, _, rfl, fun j hj => ?_⟩ (Nat.le_refl _) (Nat.le_refl _) ?_ ?_
  · rw [updA]
    by_cases e : j = n
    · rw [if_pos e, e, hc]
    · rw [if_neg e]; exact h2 j (by omega)
  · rw [(setT_phs _ _ _ _ _ _ _).1, (setT_phs _ _ _ _ _ _ _).1]
  · rw [(setT_phs _ _ _ _ _ _ _).2, (setT_phs _ _ _ _ _ _ _).2]
/-! tried on the trial -/
def AGC (ch : Nat) (cs : Nat → Int32) (n a b c : Int32) : Nat × Int32 × Int32 := if ch = 1 then F_X8_against_ad1 cs n a b c else if ch = 2 then F_X8_against_ad2 cs n a b else F_X8_against_ad5 a
theorem ag1_or (cs : Nat → Int32) (n a b c : Int32) : (F_X8_against_ad1 cs n a b c).1 = 0 ∨ ∃ x y, F_X8_against_ad1 cs n a b c = (1, x, y) := by
  rw [ag1_eq]
  repeat' split
  all_goals first | exact Or.inl rfl | exact Or.inr ⟨_, _, rfl⟩
theorem ag2_or (cs : Nat → Int32) (n a b : Int32) : (F_X8_against_ad2 cs n a b).1 = 0 ∨ ∃ x y, F_X8_against_ad2 cs n a b = (1, x, y) := by
  rw [ag2_eq]
  repeat' split
  all_goals first | exact Or.inl rfl | exact Or.inr ⟨_, _, rfl⟩
theorem ag3_or (ds : Nat → Int32) (n a b : Int32) : (F_X8_against_ad3 ds n a b).1 = 0 ∨ ∃ x y, F_X8_against_ad3 ds n a b = (1, x, y) := by
  rw [ag3_eq]
  repeat' split
  all_goals first | exact Or.inl rfl | exact Or.inr ⟨_, _, rfl⟩
theorem ag4_or (cn : Int32) : (F_X8_against_ad4 cn).1 = 0 ∨ ∃ x y, F_X8_against_ad4 cn = (1, x, y) := by
  rw [ag4_eq]
  repeat' split
  all_goals first | exact Or.inl rfl | exact Or.inr ⟨_, _, rfl⟩
theorem ag5_or (a : Int32) : (F_X8_against_ad5 a).1 = 0 ∨ ∃ x y, F_X8_against_ad5 a = (1, x, y) := by
  rw [ag5_eq]
  repeat' split
  all_goals first | exact Or.inl rfl | exact Or.inr ⟨_, _, rfl⟩
theorem ag0_or (n : Int32) : (F_X8_against_ad0 n).1 = 0 ∨ ∃ x y, F_X8_against_ad0 n = (1, x, y) := by
  rw [ag0_eq]
  repeat' split
  all_goals first | exact Or.inl rfl | exact Or.inr ⟨_, _, rfl⟩
theorem AGC_or (ch : Nat) (cs : Nat → Int32) (n a b c : Int32) : (AGC ch cs n a b c).1 = 0 ∨ ∃ x y, AGC ch cs n a b c = (1, x, y) := by
  unfold AGC
  split
  · exact ag1_or cs n a b c
  · split
    · exact ag2_or cs n a b
    · exact ag5_or a
/-- one command on the trial: refused, or carried out -/
theorem try_step {R r d T : Nat} {capE : Nat} {PP : List PG} {mc : Int32} {ds cs mp pk : Nat → Int32} {cap : Nat} {cn sn n tk av lo md : Int32} (hG : GV R r d T capE PP ds cs mp pk cap cn n tk) (hr : r + 1 ≤ R) (hR : R ≤ 32) (hd : d ≤ 100000) (hT : T + 99 < 500000) (hP : PP.length ≤ 880000)
    {sg : Nat → Int32} {ln p ch q : Nat} {a b c : Int32} (hR1 : RDC sg ln p ch a b c q) (hch : ch = 1 ∨ ch = 2 ∨ ch = 5) (ha9 : a.toInt ≤ 9) {len idx : Nat} (hi : idx < len) (hlen : len ≤ 60) (hq : q ≤ 60) (k : Nat) (ch0 : Nat) (nu0 : Nat → Int32) (nc ns : Nat) :
    (∃ x y nu' C S, AGC ch cs n a b c = (1, x, y) ∧ K_X10_tryCommands_9 (L_X10_tryCommands_9 sg (nI ln) (nI len) (k + 1) (nI idx) mc (nI p) cn sn n tk av lo md ch0 capE cap nu0 ds cs mp pk PP nc ns) = (2, 8, nI idx, x, y, capE, mc, nu', nI q, ch, ds, cs, mp, cap, pk, cn, sn, n, tk, av, lo, md, PP, C, S) ∧ C ≤ nc + 10 ∧ S ≤ ns + 60) ∨
    ((AGC ch cs n a b c).1 = 0 ∧ ∃ nu' capE' mc' cs' mp' cap' pk' cn' sn' tk' av' lo' md' PP' C S c9 s9, K_X10_tryCommands_9 (L_X10_tryCommands_9 sg (nI ln) (nI len) (k + 1) (nI idx) mc (nI p) cn sn n tk av lo md ch0 capE cap nu0 ds cs mp pk PP nc ns) = K_X10_tryCommands_9 (L_X10_tryCommands_9 sg (nI ln) (nI len) k (nI (idx + 1)) mc' (nI (q + 1)) cn' sn' n tk' av' lo' md' ch capE' cap' nu' ds cs' mp' pk' PP' C S) ∧ GV R (r + 1) (d + 2) (T + 99) capE' PP' ds cs' mp' pk' cap' cn' n tk' ∧ (∃ Q, PP' = PP ++ Q ∧ Q.length ≤ 54) ∧ CO cap cap' capE capE' PP PP' c9 s9 ∧ C ≤ nc + c9 + 10 ∧ S ≤ ns + s9 + 60) := by
  obtain ⟨nu', e, e0, e1, e2⟩ := hR1 ch0 nu0
  obtain ⟨z1, z2, z3, z4, z5, N9, hN, en⟩ := gv_z hG (show r ≤ R by omega) hd (by omega)
  subst en
  rw [show L_X10_tryCommands_9 sg (nI ln) (nI len) (k + 1) (nI idx) mc (nI p) cn sn (nI N9) tk av lo md ch0 capE cap nu0 ds cs mp pk PP nc ns = B_X10_tryCommands_9 sg (nI ln) (nI len) (L_X10_tryCommands_9 sg (nI ln) (nI len) k) (nI idx) mc (nI p) cn sn (nI N9) tk av lo md ch0 capE cap nu0 ds cs mp pk PP nc ns from rfl]
  unfold B_X10_tryCommands_9
  rw [if_neg (by rw [qI_le (by omega) (by omega)]; omega), e]
  generalize L_X10_tryCommands_9 sg (nI ln) (nI len) k = rc
  unfold K_X10_tryCommands_18
  simp only [if_neg (show ¬ (1 : Int32) = 0 from by decide)]
  rw [e0, e1, e2]
  rcases hch with rfl | rfl | rfl
  · rw [if_neg (show ¬ (1 : Nat) = 0 from by decide), if_pos (show (1 : Nat) = 1 from rfl)]
    unfold AGC
    rw [if_pos (show (1 : Nat) = 1 from rfl)]
    rcases ag1_or cs (nI N9) a b c with hag | ⟨x, y, hag⟩
    · rw [if_pos hag]
      refine Or.inr ⟨hag, ?_⟩
      obtain ⟨x, y, hx, hy, hxy, rfl, rfl, hv0, hv9⟩ := ag1_ok hN hag
      obtain ⟨capE', mc', mp', cap', pk', cn', sn', md', PP', c9, sl, e, g, ⟨Q, q1, q2⟩, co, _⟩ := canal_gv mc sn md hG (by omega) hR hd (by omega) hP (a := x) (b := y) (by rw [nI_toInt (by omega)]; omega) (by rw [nI_toInt (by omega)]; omega) hxy hv0 hv9
      unfold F_X8_carryOut_ad1
      rw [e]
      unfold K_X8_carryOut_54 K_X10_tryCommands_113_1
      simp only []
      rw [qI_succ (by omega), show F_X3_skipSign (nI q) = nI q + 1 from rfl, qI_succ (by omega)]
      exact ⟨_, _, _, _, _, _, _, _, _, _, _, _, _, _, _, _, _, _, rfl, GV.mono g (by omega) (by omega) (by omega), ⟨Q, q1, by omega⟩, co, by omega, by omega⟩
    · rw [hag, if_neg (show ¬ (1 : Nat) = 0 from by decide)]
      exact Or.inl ⟨x, y, nu', _, _, rfl, rfl, by omega, by omega⟩
  · rw [if_neg (show ¬ (2 : Nat) = 0 from by decide), if_neg (show ¬ (2 : Nat) = 1 from by decide), if_pos (show (2 : Nat) = 2 from rfl)]
    unfold AGC
    rw [if_neg (show ¬ (2 : Nat) = 1 from by decide), if_pos (show (2 : Nat) = 2 from rfl)]
    rcases ag2_or cs (nI N9) a b with hag | ⟨x, y, hag⟩
    · rw [if_pos hag]
      refine Or.inr ⟨hag, ?_⟩
      obtain ⟨x, y, hx, hy, hxy, rfl, rfl⟩ := ag2_ok hN hag
      obtain ⟨capE', mc', mp', cap', pk', cn', sn', md', PP', c9, sl, e, g, ⟨Q, q1, q2⟩, co, _⟩ := canal_gv mc sn md hG (by omega) hR hd (by omega) hP (a := x) (b := y) (by rw [nI_toInt (by omega)]; omega) (by rw [nI_toInt (by omega)]; omega) hxy (v := 0) (by decide) (by decide)
      unfold F_X8_carryOut_ad2
      rw [e]
      unfold K_X8_carryOut_62 K_X10_tryCommands_113_2
      simp only []
      rw [qI_succ (by omega), show F_X3_skipSign (nI q) = nI q + 1 from rfl, qI_succ (by omega)]
      exact ⟨_, _, _, _, _, _, _, _, _, _, _, _, _, _, _, _, _, _, rfl, GV.mono g (by omega) (by omega) (by omega), ⟨Q, q1, by omega⟩, co, by omega, by omega⟩
    · rw [hag, if_neg (show ¬ (1 : Nat) = 0 from by decide)]
      exact Or.inl ⟨x, y, nu', _, _, rfl, rfl, by omega, by omega⟩
  · rw [if_neg (show ¬ (5 : Nat) = 0 from by decide), if_neg (show ¬ (5 : Nat) = 1 from by decide), if_neg (show ¬ (5 : Nat) = 2 from by decide), if_neg (show ¬ (5 : Nat) = 3 from by decide), if_neg (show ¬ (5 : Nat) = 4 from by decide)]
    unfold AGC
    rw [if_neg (show ¬ (5 : Nat) = 1 from by decide), if_neg (show ¬ (5 : Nat) = 2 from by decide)]
    rcases ag5_or a with hag | ⟨x, y, hag⟩
    · rw [if_pos hag]
      refine Or.inr ⟨hag, ?_⟩
      obtain ⟨t, rfl, ht1, ht9⟩ := ag5_ok hag
      rw [nI_toInt (by omega)] at ha9
      obtain ⟨capE', mc', mp', cap', pk', cn', sn', tk', av', lo', md', PP', c9, sl, e, g, ⟨Q, q1, q2⟩, co, _⟩ := pass_gv mc sn av lo md hG (by omega) hR hd (by omega) hP (t := t) ht9 (Nat.le_refl _)
      rw [e]
      unfold K_X10_tryCommands_113_5
      simp only []
      rw [qI_succ (by omega), show F_X3_skipSign (nI q) = nI q + 1 from rfl, qI_succ (by omega)]
      exact ⟨_, _, _, _, _, _, _, _, _, _, _, _, _, _, _, _, _, _, rfl, GV.mono g (by rw [if_pos (by omega)]; exact Nat.le_refl _) (by omega) (by omega), ⟨Q, q1, by omega⟩, co, by omega, by omega⟩
    · rw [hag, if_neg (show ¬ (1 : Nat) = 0 from by decide)]
      exact Or.inl ⟨x, y, nu', _, _, rfl, rfl, by omega, by omega⟩
theorem try_end {capE : Nat} {PP : List PG} {mc : Int32} {ds cs mp pk : Nat → Int32} {cap : Nat} {cn sn n tk av lo md : Int32} {sg : Nat → Int32} {ln len : Nat} {pl : Int32} (hlen : len ≤ 60) (k : Nat) (ch0 : Nat) (nu0 : Nat → Int32) (nc ns : Nat) : K_X10_tryCommands_9 (L_X10_tryCommands_9 sg (nI ln) (nI len) (k + 1) (nI len) mc pl cn sn n tk av lo md ch0 capE cap nu0 ds cs mp pk PP nc ns) = (0, 0, 0, 0, 0, capE, mc, nu0, pl, ch0, ds, cs, mp, cap, pk, cn, sn, n, tk, av, lo, md, PP, nc, ns) := by
  rw [show L_X10_tryCommands_9 sg (nI ln) (nI len) (k + 1) (nI len) mc pl cn sn n tk av lo md ch0 capE cap nu0 ds cs mp pk PP nc ns = B_X10_tryCommands_9 sg (nI ln) (nI len) (L_X10_tryCommands_9 sg (nI ln) (nI len) k) (nI len) mc pl cn sn n tk av lo md ch0 capE cap nu0 ds cs mp pk PP nc ns from rfl]
  unfold B_X10_tryCommands_9
  rw [if_pos (by rw [qI_le (by omega) (by omega)]; omega)]
  unfold K_X10_tryCommands_9
  rfl
