/-! A GOOD SURVEY, AND CHANGES OF IT -/
def BR (R : Nat) : Nat := 6 * BB (R + 2)
/-- what is good of a survey over an archive, wherever it stands -/
def GS (r d T : Nat) (PP : List PG) (ds cs mp pk : Nat → Int32) (cn n tk : Int32) : Prop := ∃ M lt N f, SIM PP mp pk cn M lt ∧ n = nI N ∧ N ≤ 6 ∧ CSR_ cs ∧ CSY cs ∧ Zf 6 ds ∧ Zf 36 cs ∧ (∀ a, a < 6 → 0 ≤ (ds a).toInt ∧ (ds a).toInt ≤ 2) ∧ LJ f d N tk M lt ∧ (∀ X, f X ≤ r) ∧ tk.toInt ≤ T ∧ OZ M
/-- the archive -/
def ARC (capE : Nat) (PP : List PG) : Prop := EC capE PP.length ∧ PGX_ PP ∧ capE ≤ 10 + PP.length + PP.length / 2
def GV (R r d T : Nat) (capE : Nat) (PP : List PG) (ds cs mp pk : Nat → Int32) (cap : Nat) (cn n tk : Int32) : Prop := GS r d T PP ds cs mp pk cn n tk ∧ LC cap cn ∧ ARC capE PP ∧ cap ≤ 4 * BR R + 12
theorem BB34 : BR 32 = LBB := by decide +kernel
theorem BR_mono {r R : Nat} (h : r ≤ R) : BR r ≤ BR R := Nat.mul_le_mul_left 6 (BB_mono (by omega))
theorem BR_le {r : Nat} (h : r ≤ 32) : BR r ≤ LBB := by rw [← BB34]; exact BR_mono h
theorem BR_pos (R : Nat) : 120 ≤ BR R := Nat.le_trans (by decide +kernel : 120 ≤ BR 0) (BR_mono (Nat.zero_le R))
theorem nbF_n {ds cs : Nat → Int32} {n : Nat} : ∀ a b, nbF ds cs n a b = true → b < n := fun a b h => (of_decide_eq_true h).2.1
theorem lj_LB {r d T : Nat} {ds cs : Nat → Int32} {n : Nat} {tk : Int32} {M : MP} {lt : List LT} {f : Nat → Nat} (hn : n ≤ 6) (hS : CSY cs) (h : LJ f d n tk M lt) (hf : ∀ X, f X ≤ r) {R : Nat} (hr : r ≤ R) (hd : d ≤ 100000) (hT : tk.toInt ≤ T) (hT2 : T < 500000) : LB (BR R) (nbF ds cs n) (cstF cs) n 99 tk M lt := by
  by_cases c : n = 0
  · subst c
    obtain ⟨e1, e2⟩ := h.2.2.2 rfl
    rw [e1]
    have key : ∀ (k : Nat) (tk : Int32) (M : MP), LB (BR R) (nbF ds cs 0) (cstF cs) 0 k tk M [] := by
      intro k
      induction k with
      | zero => intro tk M; exact Nat.zero_le _
      | succ k ih => intro tk M; exact ⟨Nat.zero_le _, ih (tk + 1) M⟩
    exact key 99 tk M
  · have hnb := nbF_NB (ds := ds) hn hS
    have z := LI_LB (cst := cstF cs) hn (by omega) hnb nbF_n hd (h.li (r := r) (fun X _ => hf X)) (by omega)
    have hB : BR r ≤ BR R := BR_mono hr
    have key : ∀ (k : Nat) (tk : Int32) (M : MP) (lt : List LT), LB (BR r) (nbF ds cs n) (cstF cs) n k tk M lt → LB (BR R) (nbF ds cs n) (cstF cs) n k tk M lt := by
      intro k
      induction k with
      | zero => intro tk M lt h; exact Nat.le_trans h hB
      | succ k ih => intro tk M lt h; exact ⟨Nat.le_trans h.1 hB, ih _ _ _ h.2⟩
    exact key 99 tk M lt z
theorem GV.mk {R r d T : Nat} {capE : Nat} {PP : List PG} {ds cs mp pk : Nat → Int32} {cap : Nat} {cn n tk : Int32} {M : MP} {lt : List LT} {N : Nat} {f : Nat → Nat} (k1 : SVS mp pk cap cn capE PP M lt) (hn : n = nI N) (g3 : N ≤ 6) (g4 : CSR_ cs) (g5 : CSY cs) (g6 : Zf 6 ds) (g7 : Zf 36 cs) (g8 : ∀ a, a < 6 → 0 ≤ (ds a).toInt ∧ (ds a).toInt ≤ 2) (g9 : cap ≤ 4 * BR R + 12) (g10 : LJ f d N tk M lt) (g12 : tk.toInt ≤ T) (goz : OZ M) (g11 : ∀ X, f X ≤ r) : GV R r d T capE PP ds cs mp pk cap cn n tk :=
  ⟨⟨M, lt, N, f, k1.1, hn, g3, g4, g5, g6, g7, g8, g10, g11, g12, goz⟩, k1.2.1, ⟨k1.2.2.1, k1.2.2.2.1, k1.2.2.2.2⟩, g9⟩
theorem come_gv {R r d T : Nat} {capE : Nat} {PP : List PG} (mc : Int32) {ds cs mp pk : Nat → Int32} {cap : Nat} {cn : Int32} (sn : Int32) {n tk : Int32} (md : Int32) (h : GV R r d T capE PP ds cs mp pk cap cn n tk) (hr : r ≤ R) (hR : R ≤ 32) (hd : d ≤ 100000) (hT : T < 500000) (hP : PP.length ≤ 880000) (h6 : n.toInt < 6) :
    ∃ capE' mc' mp' cap' pk' cn' sn' md' PP' c sl, F_X8_addSurveyor capE PP mc ds cs mp pk cap cn sn n tk md = (n, capE', mc', mp', cap', pk', cn', sn', n + 1, md', PP', c, sl) ∧
      GV R (max r 1) (d + 1) T capE' PP' ds cs mp' pk' cap' cn' (n + 1) tk ∧ (∃ Q, PP' = PP ++ Q ∧ Q.length ≤ 6) ∧ CO cap cap' capE capE' PP PP' c sl ∧ md' = md + 1 := by
  obtain ⟨⟨M, lt, N, f, g1a, rfl, g3, g4, g5, g6, g7, g8, g10, g11, g12, goz⟩, g1b, ⟨g1c, g1d, g1e⟩, g9⟩ := h
  have g1 : SVS mp pk cap cn capE PP M lt := ⟨g1a, g1b, g1c, g1d, g1e⟩
  rw [nI_toInt (by omega)] at h6
  have hLB := LB.len (lj_LB (ds := ds) (T := T) g3 g5 g10 g11 hr hd g12 hT)
  have hL : LBB = 72420 := rfl
  have hBR := BR_le hR
  have hBP := BR_pos R
  obtain ⟨capE', mc', mp', cap', pk', cn', sn', md', PP', c, sl, e, k1, k2, k3, k4, km⟩ := add_svs mc ds sn (n := N) (by omega) g4 tk md g1 (by omega) (by omega)
  have hnb := nbF_NB (ds := ds) (n := N + 1) (by omega) g5
  have hj := LJ.ren (nb := nbF ds cs (N + 1)) (cstF cs) (by omega) hnb (LJ.come g10) (s := N) (by omega) (by omega)
  refine ⟨capE', mc', mp', cap', pk', cn', sn', md', PP', c, sl, by rw [e, qI_succ (by omega)], GV.mk k1 (qI_succ (by omega)) (by omega) g4 g5 g6 g7 g8 (by omega) hj g12 (oz_ren _ _ _ hnb goz _) (fun X => ?_), k3, k4, km⟩
  have := g11 X
  show ite _ _ _ ≤ _
  by_cases cx : X = N
  · rw [if_pos cx, if_pos cx]
    omega
  · rw [if_neg cx, if_neg cx]
    omega
theorem canal_gv {R r d T : Nat} {capE : Nat} {PP : List PG} (mc : Int32) {ds cs mp pk : Nat → Int32} {cap : Nat} {cn : Int32} (sn : Int32) {n tk : Int32} (md : Int32) (h : GV R r d T capE PP ds cs mp pk cap cn n tk) (hr : r ≤ R) (hR : R ≤ 32) (hd : d ≤ 100000) (hT : T < 500000) (hP : PP.length ≤ 880000) {a b : Nat} (ha : (a : Int) < n.toInt) (hb : (b : Int) < n.toInt) (hab : a ≠ b) {v : Int32} (h0 : 0 ≤ v.toInt) (h9 : v.toInt ≤ 9) :
    ∃ capE' mc' mp' cap' pk' cn' sn' md' PP' c sl, F_X8_setCanal capE PP mc ds cs mp pk cap cn sn n tk md (nI a) (nI b) v = (cs (6 * a + b), capE', mc', csU cs a b v, mp', cap', pk', cn', sn', md', PP', c, sl) ∧
      GV R (r + 1) (d + 2) T capE' PP' ds (csU cs a b v) mp' pk' cap' cn' n tk ∧ (∃ Q, PP' = PP ++ Q ∧ Q.length ≤ 6) ∧ CO cap cap' capE capE' PP PP' c sl ∧ (ds a = ds b → md' = md + 1 + 1) := by
  obtain ⟨⟨M, lt, N, f, g1a, rfl, g3, g4, g5, g6, g7, g8, g10, g11, g12, goz⟩, g1b, ⟨g1c, g1d, g1e⟩, g9⟩ := h
  have g1 : SVS mp pk cap cn capE PP M lt := ⟨g1a, g1b, g1c, g1d, g1e⟩
  rw [nI_toInt (by omega)] at ha hb
  have hLB := LB.len (lj_LB (ds := ds) (T := T) g3 g5 g10 g11 hr hd g12 hT)
  have hL : LBB = 72420 := rfl
  have hBR := BR_le hR
  have hBP := BR_pos R
  have hcsR := csU_R (a := a) (b := b) g4 h0 h9
  have hcsS := csU_S (v := v) g5 (a := a) (b := b) (by omega) (by omega) hab
  have hcsZ := csU_Z (v := v) g7 (a := a) (b := b) (by omega) (by omega)
  by_cases hdd : ds a = ds b
  · obtain ⟨capE', mc', mp', cap', pk', cn', sn', md', PP', c, sl, e, k1, k2, k3, k4, km⟩ := canal_svs mc sn (n := N) (a := a) (b := b) g3 (by omega) (by omega) hab v hcsR hcsS tk md g1 (by omega) (by omega) hdd
    have hnb := nbF_NB (ds := ds) g3 hcsS
    have hj1 := LJ.ren (nb := nbF ds (csU cs a b v) N) (cstF (csU cs a b v)) g3 hnb g10 (s := min a b) (by omega) (by omega)
    have hj2 := LJ.ren (nb := nbF ds (csU cs a b v) N) (cstF (csU cs a b v)) g3 hnb hj1 (s := max a b) (by omega) (by omega)
    refine ⟨capE', mc', mp', cap', pk', cn', sn', md', PP', c, sl, e, GV.mk k1 rfl g3 hcsR hcsS g6 hcsZ g8 (by omega) hj2 g12 (oz_ren _ _ _ hnb (oz_ren _ _ _ hnb goz _) _) (fun X => ?_), k3, k4, fun _ => km⟩
    have := g11 X
    show ite _ (ite _ _ _ + 1) (ite _ _ _) ≤ _
    by_cases cx : X = max a b
    · rw [if_pos cx, if_neg (by omega)]
      omega
    · rw [if_neg cx]
      by_cases cy : X = min a b
      · rw [if_pos cy]
        omega
      · rw [if_neg cy]
        omega
  · have e := canal2_eq capE PP mc (cs := cs) mp pk cap cn sn (n := N) (a := a) (b := b) g3 (by omega) (by omega) v tk md hdd
    exact ⟨capE, mc, mp, cap, pk, cn, sn, md, PP, 0, 0, e, GV.mk g1 rfl g3 hcsR hcsS g6 hcsZ g8 g9 (LJ.mono g10 (fun _ _ => Nat.le_refl _) (by omega)) g12 goz (fun X => by have := g11 X; omega), ⟨[], (List.append_nil _).symm, by simp⟩, CO.rf, fun z => absurd z hdd⟩
theorem lose_gv {R r d T : Nat} {capE : Nat} {PP : List PG} {ds cs mp pk : Nat → Int32} {cap : Nat} {cn : Int32} (lo : Int32) {n tk : Int32} (h : GV R r d T capE PP ds cs mp pk cap cn n tk) (hc : 0 < cn.toInt) : ∃ og pk' cn', F_X8_loseFirst PP pk cn lo = (og, pk', cn', lo + 1) ∧ GV R r d T capE PP ds cs mp pk' cap cn' n tk ∧ 0 ≤ og.toInt := by
  obtain ⟨⟨M, lt, N, f, q1, rfl, g3, g4, g5, g6, g7, g8, g10, g11, g12, goz⟩, q2, ⟨q3a, q3b, q3c⟩, g9⟩ := h
  have q3 : EC capE PP.length ∧ PGX_ PP ∧ capE ≤ 10 + PP.length + PP.length / 2 := ⟨q3a, q3b, q3c⟩
  have hcn := q1.2.2.2.1
  cases lt with
  | nil => rw [List.length_nil] at hcn; omega
  | cons l out =>
    obtain ⟨og, pk', cn', e, k⟩ := lose_spec lo q1
    have hcn2 := k.2.2.2.1
    rw [List.length_cons] at hcn
    have h0n : 0 < N := by
      rcases Nat.eq_zero_or_pos N with z | z
      · obtain ⟨y, _⟩ := g10.2.2.2 z
        cases y
      · exact z
    have hog : 0 ≤ og.toInt := by
      have w : (F_X8_loseFirst PP pk cn lo).1 = og := by rw [e]
      have w2 : (F_X8_loseFirst PP pk cn lo).1 = (pgd PP (F_X8_pageOfLetter PP pk cn 0)).1 := rfl
      rw [← w, w2]
      exact (q3b _).1.1
    obtain ⟨z1, z2, z3, z4⟩ := q2
    exact ⟨og, pk', cn', e, GV.mk ⟨k, ⟨by omega, by omega, z3, z4⟩, q3⟩ rfl g3 g4 g5 g6 g7 g8 g9 (LJ.sub g10 h0n (List.sublist_cons_self l out) (fun _ => rfl) (fun _ _ => Or.inl rfl)) g12 goz g11, hog⟩
theorem pass_gv {R r d T T2 : Nat} {capE : Nat} {PP : List PG} (mc : Int32) {ds cs mp pk : Nat → Int32} {cap : Nat} {cn : Int32} (sn : Int32) {n tk : Int32} (av lo md : Int32) (h : GV R r d T capE PP ds cs mp pk cap cn n tk) (hr : r ≤ R) (hR : R ≤ 32) (hd : d ≤ 100000) (hT : T + 99 < 500000) (hP : PP.length ≤ 880000) {t : Nat} (ht : t ≤ 99) (hT2 : T + t ≤ T2) :
    ∃ capE' mc' mp' cap' pk' cn' sn' tk' av' lo' md' PP' c sl, F_X8_carryOut_ad5 capE PP mc ds cs mp pk cap cn sn n tk av lo md (nI t) = (cn', capE', mc', mp', cap', pk', cn', sn', tk', av', lo', md', PP', c, sl) ∧
      GV R (if t ≤ 9 then r + 1 else r + 2) d T2 capE' PP' ds cs mp' pk' cap' cn' n tk' ∧ (∃ Q, PP' = PP ++ Q ∧ Q.length ≤ 6 * t) ∧ CO cap cap' capE capE' PP PP' c sl ∧ tk'.toInt = tk.toInt + t := by
  obtain ⟨⟨M, lt, N, f, g1a, rfl, g3, g4, g5, g6, g7, g8, g10, g11, g12, goz⟩, g1b, ⟨g1c, g1d, g1e⟩, g9⟩ := h
  have g1 : SVS mp pk cap cn capE PP M lt := ⟨g1a, g1b, g1c, g1d, g1e⟩
  have hLB := lj_LB (ds := ds) (T := T) g3 g5 g10 g11 hr hd g12 (by omega)
  have hL : LBB = 72420 := rfl
  have hBR := BR_le hR
  have hBP := BR_pos R
  obtain ⟨capE', mc', mp', cap', pk', cn', sn', tk', av', lo', md', PP', c, sl, e, k0, k1, k2, k3, k4⟩ := pass_svs mc (ds := ds) sn (n := N) g3 g4 (B := BR R) (T := t) ht (by omega) tk av lo md g1 (LB.le (by omega) hLB) (by omega)
  have hnb := nbF_NB (ds := ds) g3 g5
  have htk0 := g10.1
  have hz : ∀ (k : Nat) (tk : Int32) (M : MP), N = 0 → (∀ a b, M a b = pg0) → 0 ≤ tk.toInt → tk.toInt + k < 500000 → (mticks (nbF ds cs N) (cstF cs) N k tk M []).1.toInt = tk.toInt + k ∧ (mticks (nbF ds cs N) (cstF cs) N k tk M []).2 = (M, []) := by
    intro k
    induction k with
    | zero => intro tk M _ _ h1 h2; exact ⟨by show tk.toInt = tk.toInt + (0 : Nat); omega, rfl⟩
    | succ k ih =>
      intro tk M hN hM h1 h2
      have et := toI1 h1 (by omega)
      have em : mtick (nbF ds cs N) (cstF cs) N (tk + 1) M [] = (M, []) := by
        rw [hN]
        rfl
      unfold mticks
      rw [em]
      obtain ⟨q1, q2⟩ := ih (tk + 1) M hN hM (by omega) (by omega)
      refine ⟨?_, q2⟩
      show (mticks (nbF ds cs N) (cstF cs) N k (tk + 1) M []).1.toInt = _
      omega
  by_cases c0 : N = 0
  · obtain ⟨e1, e2⟩ := g10.2.2.2 c0
    subst e1
    obtain ⟨w1, w2⟩ := hz t tk M c0 e2 htk0 (by omega)
    rw [w2] at k1
    rw [← k0] at w1
    refine ⟨capE', mc', mp', cap', pk', cn', sn', tk', av', lo', md', PP', c, sl, e, GV.mk k1 rfl g3 g4 g5 g6 g7 g8 (by omega) (f := f) ⟨by omega, fun X hX => by omega, g10.2.2.1, fun _ => ⟨rfl, e2⟩⟩ (by omega) goz (fun X => ?_), k3, k4, by omega⟩
    have := g11 X
    split <;> omega
  · by_cases c9 : t ≤ 9
    · obtain ⟨w1, w2⟩ := LI_short (cst := cstF cs) g3 hnb nbF_n hd c9 (g10.li (r := r) (fun X _ => g11 X)) (by omega)
      rw [← k0] at w2
      rw [← k0] at w1
      exact ⟨capE', mc', mp', cap', pk', cn', sn', tk', av', lo', md', PP', c, sl, e, GV.mk k1 rfl g3 g4 g5 g6 g7 g8 (by omega) (LJ.of w1 (by omega)) (by omega) (oz_ticks _ _ hnb _ _ _ _ goz) (fun X => Nat.le_of_eq (if_pos c9).symm), k3, k4, by omega⟩
    · obtain ⟨w1, w2⟩ := LI_pass (cst := cstF cs) g3 hnb nbF_n hd t (g10.li (r := r) (fun X _ => g11 X)) (by omega)
      rw [← k0] at w2
      rw [← k0] at w1
      exact ⟨capE', mc', mp', cap', pk', cn', sn', tk', av', lo', md', PP', c, sl, e, GV.mk k1 rfl g3 g4 g5 g6 g7 g8 (by omega) (LJ.of w1 (by omega)) (by omega) (oz_ticks _ _ hnb _ _ _ _ goz) (fun X => Nat.le_of_eq (if_neg c9).symm), k3, k4, by omega⟩
