/-! THE LAW'S CHANGES: made, or refused -/
/-- the answer's sign tells whether the change was made -/
def RFP (r d T Bd : Nat) (stk : List SV) (sv : Option SV) (M : MS) (v : Int32) (N : MS) : Prop := (∃ Q, arch N = arch M ++ Q) ∧ ((v.toInt < 0 ∧ OKS 32 r d T (Bd + 700) stk sv N ∧ N.1 = M.1) ∨ (0 ≤ v.toInt ∧ OKS 32 (r + 2) (d + 6) (T + 200) (Bd + 700) (M.1 :: stk.take 7) sv N))
def CHP (r d T Bd : Nat) (stk : List SV) (sv : Option SV) (M : MS) (v : Int32) (N : MS) : Prop := (∃ Q, arch N = arch M ++ Q) ∧ ((v = 0 ∧ OKS 32 r d T (Bd + 700) stk sv N ∧ N.1 = M.1) ∨ (v = 1 ∧ OKS 32 (r + 2) (d + 6) (T + 200) (Bd + 700) (M.1 :: stk.take 7) sv N))
theorem chg_of {r d T Bd c s : Nat} {stk : List SV} {sv : Option SV} {M : MS} {K : (Int32 × MS × Nat × Nat) → (Int32 × MS × Nat × Nat)} (hK : ∀ v N c s, K (v, N, c, s) = adc c s (if v < 0 then (0, N, 0, 0) else (1, N, 0, 0))) {r0 : Int32 × MS × Nat × Nat} (h : OQ c s M r0 (RFP r d T Bd stk sv M)) : OQ c s M (K r0) (CHP r d T Bd stk sv M) := by
  have z : OQ (0 + c) (0 + s) M (K r0) (CHP r d T Bd stk sv M) := by
    refine OQ.bind (K := K) _ hK h (fun v N hP => ?_)
    obtain ⟨h1, ⟨h2, h3, h4⟩ | ⟨h2, h3⟩⟩ := hP
    · rw [if_pos (by rw [Int32.lt_iff_toInt_lt, i0]; exact h2)]
      exact OQ.ret ⟨h1, Or.inl ⟨rfl, h3, h4⟩⟩
    · rw [if_neg (nlt_of h2)]
      exact OQ.ret ⟨h1, Or.inr ⟨rfl, h3⟩⟩
  rw [Nat.zero_add, Nat.zero_add] at z
  exact z
theorem rf_ref {r d T Bd : Nat} {stk : List SV} {sv : Option SV} {M : MS} (h : OKS 32 r d T Bd stk sv M) (hB : Bd ≤ 860000) {v : Int32} {N : MS} {x y : Int32} (hP : v = -1001 ∧ N = setK M x y) : RFP r d T Bd stk sv M v N := by
  obtain ⟨rfl, rfl⟩ := hP
  exact ⟨⟨[], by rw [setK_arch, List.append_nil]⟩, Or.inl ⟨by decide, OKS.mono (OKS.setK h x y) (Nat.le_refl _) (Nat.le_refl _) (Nat.le_refl _) (by omega) (by omega), setK_1 M x y⟩⟩
theorem rf_ok {r d T Bd r' d' T' Bd' : Nat} {stk : List SV} {sv : Option SV} {M : MS} {v : Int32} {N : MS} (h : OKS 32 r' d' T' Bd' (M.1 :: stk.take 7) sv N) (hQ : ∃ Q, arch N = arch M ++ Q) (h0 : 0 ≤ v.toInt) (hr : r' ≤ r + 2) (hd : d' ≤ d + 6) (hT : T' ≤ T + 200) (hB : Bd' ≤ Bd + 700) (hB2 : Bd ≤ 860000) : RFP r d T Bd stk sv M v N := ⟨hQ, Or.inr ⟨h0, OKS.mono h hr hd hT hB (by omega)⟩⟩
theorem rf_come {r d T Bd : Nat} {stk : List SV} {sv : Option SV} {M : MS} (h : OKS 32 r d T Bd stk sv M) (hr : r + 2 ≤ 32) (hd : d ≤ 90000) (hT : T + 400 < 500000) (hB : Bd ≤ 860000) : OQ 20 100 M (F_L_come M) (RFP r d T Bd stk sv M) := by
  rcases ag0_or (nS M.1) with hag | ⟨x, y, hag⟩
  · refine OQ.mono (oq_come h (by omega) (by omega) (by omega) (by omega) (by omega) (by omega) hag) (Nat.le_refl _) (Nat.le_refl _) (fun v N hP => ?_)
    obtain ⟨p1, p2, p3, _⟩ := hP
    exact rf_ok p1 p2 (by rw [p3]; obtain ⟨N9, _, e⟩ := h.nS; rw [e, nI_toInt (by omega)]; omega) (by omega) (by omega) (by omega) (by omega) hB
  · exact OQ.mono (ref_come M hag) (Nat.le_refl _) (Nat.le_refl _) (fun v N hP => rf_ref h hB hP)
theorem rf_canal {r d T Bd : Nat} {stk : List SV} {sv : Option SV} {M : MS} (h : OKS 32 r d T Bd stk sv M) (hr : r + 2 ≤ 32) (hd : d ≤ 90000) (hT : T + 400 < 500000) (hB : Bd ≤ 860000) (a b v9 : Int32) : OQ 20 100 M (F_L_canal M a b v9) (RFP r d T Bd stk sv M) := by
  rcases ag1_or M.1.2.1 (nS M.1) a b v9 with hag | ⟨x, y, hag⟩
  · refine OQ.mono (oq_canal a b v9 h (by omega) (by omega) (by omega) (by omega) (by omega) hag) (Nat.le_refl _) (Nat.le_refl _) (fun v N hP => ?_)
    obtain ⟨p1, p2, x, y, _, _, _, _, _, _, p3, _⟩ := hP
    exact rf_ok p1 p2 p3 (by omega) (by omega) (by omega) (by omega) hB
  · exact OQ.mono (ref_canal M a b v9 hag) (Nat.le_refl _) (Nat.le_refl _) (fun v N hP => rf_ref h hB hP)
theorem rf_close {r d T Bd : Nat} {stk : List SV} {sv : Option SV} {M : MS} (h : OKS 32 r d T Bd stk sv M) (hr : r + 2 ≤ 32) (hd : d ≤ 90000) (hT : T + 400 < 500000) (hB : Bd ≤ 860000) (a b : Int32) : OQ 20 100 M (F_L_close M a b) (RFP r d T Bd stk sv M) := by
  rcases ag2_or M.1.2.1 (nS M.1) a b with hag | ⟨x, y, hag⟩
  · refine OQ.mono (oq_close a b h (by omega) (by omega) (by omega) (by omega) (by omega) hag) (Nat.le_refl _) (Nat.le_refl _) (fun v N hP => ?_)
    obtain ⟨p1, p2, p3⟩ := hP
    exact rf_ok p1 p2 p3 (by omega) (by omega) (by omega) (by omega) hB
  · exact OQ.mono (ref_close M a b hag) (Nat.le_refl _) (Nat.le_refl _) (fun v N hP => rf_ref h hB hP)
theorem rf_district {r d T Bd : Nat} {stk : List SV} {sv : Option SV} {M : MS} (h : OKS 32 r d T Bd stk sv M) (hr : r + 2 ≤ 32) (hd : d ≤ 90000) (hT : T + 400 < 500000) (hB : Bd ≤ 860000) (a b : Int32) : OQ 20 100 M (F_L_district M a b) (RFP r d T Bd stk sv M) := by
  rcases ag3_or M.1.1 (nS M.1) a b with hag | ⟨x, y, hag⟩
  · refine OQ.mono (oq_district a b h (by omega) (by omega) (by omega) (by omega) (by omega) hag) (Nat.le_refl _) (Nat.le_refl _) (fun v N hP => ?_)
    obtain ⟨p1, p2, x, _, _, _, p3, _⟩ := hP
    exact rf_ok p1 p2 p3 (by omega) (by omega) (by omega) (by omega) hB
  · exact OQ.mono (ref_district M a b hag) (Nat.le_refl _) (Nat.le_refl _) (fun v N hP => rf_ref h hB hP)
theorem rf_lose {r d T Bd : Nat} {stk : List SV} {sv : Option SV} {M : MS} (h : OKS 32 r d T Bd stk sv M) (hr : r + 2 ≤ 32) (hd : d ≤ 90000) (hT : T + 400 < 500000) (hB : Bd ≤ 860000) : OQ 20 100 M (F_L_lose M) (RFP r d T Bd stk sv M) := by
  rcases ag4_or (cnS M.1) with hag | ⟨x, y, hag⟩
  · refine OQ.mono (oq_lose h (by omega) (by omega) (by omega) (by omega) (by omega) hag) (Nat.le_refl _) (Nat.le_refl _) (fun v N hP => ?_)
    obtain ⟨p1, p2, p3⟩ := hP
    exact rf_ok p1 p2 p3 (by omega) (by omega) (by omega) (by omega) hB
  · exact OQ.mono (ref_lose M hag) (Nat.le_refl _) (Nat.le_refl _) (fun v N hP => rf_ref h hB hP)
theorem rf_pass {r d T Bd : Nat} {stk : List SV} {sv : Option SV} {M : MS} (h : OKS 32 r d T Bd stk sv M) (hr : r + 2 ≤ 32) (hd : d ≤ 90000) (hT : T + 400 < 500000) (hB : Bd ≤ 860000) (a : Int32) : OQ 20 100 M (F_L_pass M a) (RFP r d T Bd stk sv M) := by
  rcases ag5_or a with hag | ⟨x, y, hag⟩
  · refine OQ.mono (oq_pass a h (by omega) (by omega) (by omega) (by omega) (by omega) hag) (Nat.le_refl _) (Nat.le_refl _) (fun v N hP => ?_)
    obtain ⟨p1, p2, t, _, _, p3, _⟩ := hP
    exact rf_ok p1 p2 p3 (by omega) (by omega) (by omega) (by omega) hB
  · exact OQ.mono (ref_pass M a hag) (Nat.le_refl _) (Nat.le_refl _) (fun v N hP => rf_ref h hB hP)
/-- a text is written and read -/
theorem reads_loop {M : MS} {bs tx : Nat → Int32} {n : Nat} (hn : n ≤ 60) (hbs : ∀ j, j < n → ci_ (bs j &&& 255) = tx j) {c s : Nat} {P : Int32 → MS → Prop} (hc : ∀ N, TXS M n tx N → OQ c s N (F_L_commands N) P) : ∀ (m i : Nat) (N : MS), i + m = n → TXS M i tx N → OQ (c + m) (s + 6 * m) N (L_L_reads_2 bs n (m + 1) (nI i) N) P := by
  intro m
  induction m with
  | zero =>
    intro i N hi hN
    have ei : i = n := by omega
    subst ei
    rw [show L_L_reads_2 bs i (0 + 1) (nI i) N = B_L_reads_2 bs i (L_L_reads_2 bs i 0) (nI i) N from rfl]
    unfold B_L_reads_2
    rw [if_pos (by rw [qI_le (by omega) (by omega)]; omega)]
    have z : OQ (0 + c) (0 + s) N (K_L_reads_36_2 (F_L_commands N)) P := OQ.bind (K := K_L_reads_36_2) _ kq_L_reads_36_2 (hc N hN) (fun v N hP => OQ.ret hP)
    rw [Nat.zero_add, Nat.zero_add] at z
    exact z
  | succ m ih =>
    intro i N hi hN
    rw [show L_L_reads_2 bs n (m + 1 + 1) (nI i) N = B_L_reads_2 bs n (L_L_reads_2 bs n (m + 1)) (nI i) N from rfl]
    unfold B_L_reads_2
    rw [if_neg (by rw [qI_le (by omega) (by omega)]; omega), qI_ix (by omega)]
    refine OQ.mono (c := c + m + 1) (s := s + 6 * m + 6) ?_ (by omega) (by omega) (fun _ _ z => z)
    refine OQ.bind (c1 := 1) (s1 := 6) (c2 := c + m) (s2 := s + 6 * m) (K := K_L_reads_16_17 (nI i) (L_L_reads_2 bs n (m + 1))) _ (kq_L_reads_16_17 (nI i) (L_L_reads_2 bs n (m + 1))) (oq_append hN (by omega) (hbs i (by omega))) (fun v N1 hP => ?_)
    obtain ⟨rfl, hN1⟩ := hP
    rw [qI_succ (by omega), if_pos rfl]
    exact ih (i + 1) N1 (by omega) hN1
theorem rf_cmds {r d T Bd : Nat} {stk : List SV} {sv : Option SV} {M : MS} (hB : Bd ≤ 860000) {ch1 ch2 : Nat} {a1 b1 c1 a2 b2 c2 : Int32} {v : Int32} {N' : MS} (h : (∃ Q, arch N' = arch M ++ Q) ∧ ((v = -1002 ∧ ∃ X idx x y, N' = setK2 X 8 (nI idx) x y ∧ FF_X10_faultPosition N' = -1 ∧ OKS 32 r d T (Bd + 162) stk sv N' ∧ N'.1 = M.1 ∧ ((idx = 0 ∧ AGC ch1 M.1.2.1 (nS M.1) a1 b1 c1 = (1, x, y)) ∨ (idx = 1 ∧ (AGC ch1 M.1.2.1 (nS M.1) a1 b1 c1).1 = 0 ∧ ∃ cs', AGC ch2 cs' (nS M.1) a2 b2 c2 = (1, x, y)))) ∨ (v = 2 ∧ OKS 32 (r + 2) (d + 4) (T + 198) (Bd + 162) (M.1 :: stk.take 7) sv N' ∧ ∃ cs', (AGC ch2 cs' (nS M.1) a2 b2 c2).1 = 0))) : RFP r d T Bd stk sv M v N' := by
  obtain ⟨p1, ⟨p2, X, idx, x, y, p3, p4, p5, p6, p7⟩ | ⟨p2, p3, _⟩⟩ := h
  · exact ⟨p1, Or.inl ⟨by rw [p2]; decide, OKS.mono p5 (Nat.le_refl _) (Nat.le_refl _) (Nat.le_refl _) (by omega) (by omega), p6⟩⟩
  · exact ⟨p1, Or.inr ⟨by rw [p2]; decide, OKS.mono p3 (by omega) (by omega) (by omega) (by omega) (by omega)⟩⟩
theorem rf_textC {r d T Bd : Nat} {stk : List SV} {sv : Option SV} {M : MS} (h : OKS 32 r d T Bd stk sv M) (hr : r + 2 ≤ 32) (hd : d ≤ 90000) (hT : T + 400 < 500000) (hB : Bd ≤ 860000) {a b v : Nat} (ha : a < 4) (hb : b < 4) (hv : v < 10) {bs : Nat → Int32} (f : ci_ (bs 0 &&& 255) = 99 ∧ ci_ (bs 1 &&& 255) = nI (48 + a) ∧ ci_ (bs 2 &&& 255) = nI (48 + b) ∧ ci_ (bs 3 &&& 255) = 61 ∧ ci_ (bs 4 &&& 255) = nI (48 + v) ∧ ci_ (bs 5 &&& 255) = 59 ∧ ci_ (bs 6 &&& 255) = 116 ∧ ci_ (bs 7 &&& 255) = 49) : OQ 68 448 M (F_L_reads_F M 8 bs) (RFP r d T Bd stk sv M) := by
  unfold F_L_reads_F
  rw [show (((nI 8 : Int32).toInt - (0 : Int32).toInt).toNat + 1) = 8 + 1 from by decide]
  obtain ⟨f0, f1, f2, f3, f4, f5, f6, f7⟩ := f
  refine OQ.mono (reads_loop (M := M) (bs := bs) (tx := fun j => ci_ (bs j &&& 255)) (n := 8) (by omega) (fun j _ => rfl) (c := 60) (s := 400) (P := RFP r d T Bd stk sv M) (fun N hN => ?_) 8 0 M (by omega) (txs_0 h _)) (by omega) (by omega) (fun _ _ z => z)
  obtain ⟨sg, pl, ch, nu, lf, rfl, hs⟩ := hN
  have h0 : sg 0 = 99 := (hs 0 (by omega)).trans f0
  have h1 : sg 1 = nI (48 + a) := (hs 1 (by omega)).trans f1
  have h2 : sg 2 = nI (48 + b) := (hs 2 (by omega)).trans f2
  have h3 : sg 3 = 61 := (hs 3 (by omega)).trans f3
  have h4 : sg 4 = nI (48 + v) := (hs 4 (by omega)).trans f4
  have h5 : sg 5 = 59 := (hs 5 (by omega)).trans f5
  have h6 : sg 6 = 116 := (hs 6 (by omega)).trans f6
  have h7 : sg 7 = nI (48 + 1) := (hs 7 (by omega)).trans f7
  have hcn : cnt59 sg 0 8 = 1 := by
    simp only [cnt59]
    rw [h0, h1, h2, h3, h4, h5, h6, h7, if_neg (by decide), if_neg (nd59 (by omega)), if_neg (nd59 (by omega)), if_neg (by decide), if_neg (nd59 (by omega)), if_pos rfl, if_neg (by decide), if_neg (by decide)]
  exact OQ.mono (cmd_two h (by omega) hd hT hB (n9 := 8) (by omega) pl ch nu lf (rdc_c (p := 0) (a := a) (b := b) (v := v) (by omega) h0 (by omega) (by omega) (by omega) h1 h2 h3 h4 (ends_s (by omega) h5)) (by omega) (rdc_t (p := 6) (d := 1) (by omega) h6 (by omega) h7 ends_n) (count_eq (by omega) hcn) (Or.inl rfl) (Or.inr (Or.inr rfl)) (by rw [nI_toInt (by omega)]; omega) (by decide)) (Nat.le_refl _) (Nat.le_refl _) (fun v N hP => rf_cmds hB hP)
theorem rf_textT {r d T Bd : Nat} {stk : List SV} {sv : Option SV} {M : MS} (h : OKS 32 r d T Bd stk sv M) (hr : r + 2 ≤ 32) (hd : d ≤ 90000) (hT : T + 400 < 500000) (hB : Bd ≤ 860000) {t a b : Nat} (ht : t < 9) (ha : a < 4) (hb : b < 4) {bs : Nat → Int32} (f : ci_ (bs 0 &&& 255) = 116 ∧ ci_ (bs 1 &&& 255) = nI (48 + t) ∧ ci_ (bs 2 &&& 255) = 59 ∧ ci_ (bs 3 &&& 255) = 120 ∧ ci_ (bs 4 &&& 255) = nI (48 + a) ∧ ci_ (bs 5 &&& 255) = nI (48 + b)) : OQ 68 448 M (F_L_reads_F M 6 bs) (RFP r d T Bd stk sv M) := by
  unfold F_L_reads_F
  rw [show (((nI 6 : Int32).toInt - (0 : Int32).toInt).toNat + 1) = 6 + 1 from by decide]
  obtain ⟨f0, f1, f2, f3, f4, f5⟩ := f
  refine OQ.mono (reads_loop (M := M) (bs := bs) (tx := fun j => ci_ (bs j &&& 255)) (n := 6) (by omega) (fun j _ => rfl) (c := 60) (s := 400) (P := RFP r d T Bd stk sv M) (fun N hN => ?_) 6 0 M (by omega) (txs_0 h _)) (by omega) (by omega) (fun _ _ z => z)
  obtain ⟨sg, pl, ch, nu, lf, rfl, hs⟩ := hN
  have h0 : sg 0 = 116 := (hs 0 (by omega)).trans f0
  have h1 : sg 1 = nI (48 + t) := (hs 1 (by omega)).trans f1
  have h2 : sg 2 = 59 := (hs 2 (by omega)).trans f2
  have h3 : sg 3 = 120 := (hs 3 (by omega)).trans f3
  have h4 : sg 4 = nI (48 + a) := (hs 4 (by omega)).trans f4
  have h5 : sg 5 = nI (48 + b) := (hs 5 (by omega)).trans f5
  have hcn : cnt59 sg 0 6 = 1 := by
    simp only [cnt59]
    rw [h0, h1, h2, h3, h4, h5, if_neg (by decide), if_neg (nd59 (by omega)), if_pos rfl, if_neg (by decide), if_neg (nd59 (by omega)), if_neg (nd59 (by omega))]
  exact OQ.mono (cmd_two h (by omega) hd hT hB (n9 := 6) (by omega) pl ch nu lf (rdc_t (p := 0) (d := t) (by omega) h0 (by omega) h1 (ends_s (by omega) h2)) (by omega) (rdc_x (p := 3) (a := a) (b := b) (by omega) h3 (by omega) (by omega) h4 h5 ends_n) (count_eq (by omega) hcn) (Or.inr (Or.inr rfl)) (Or.inr (Or.inl rfl)) (by rw [nI_toInt (by omega)]; omega) (by rw [nI_toInt (by omega)]; omega)) (Nat.le_refl _) (Nat.le_refl _) (fun v N hP => rf_cmds hB hP)
theorem adz {α β : Type} (a b c d : Nat) (r : α × β × Nat × Nat) : adc a b (adc c d r) = adc (a + c) (b + d) r := adc_adc a b c d r
theorem chain_c (x : Int32) (M : MS) {i j k : Int32} (e1 : F_L_some (x >>> (4 &&& 31)) 4 = i) (e2 : F_L_some (x >>> (7 &&& 31)) 4 = j) (e3 : F_L_some (x >>> (9 &&& 31)) 10 = k) : K_L_changes_244 x M sq_a = adc (sq_a.2.2.2.1 + (sq_b i).2.2.2.1 + (sq_c i j).2.2.2.1 + (sq_d i j).2.2.2.1 + (sq_e i j k).2.2.2.1 + (sq_f i j k).2.2.2.1 + (sq_g i j k).2.2.1) (sq_a.2.2.2.2 + (sq_b i).2.2.2.2 + (sq_c i j).2.2.2.2 + (sq_d i j).2.2.2.2 + (sq_e i j k).2.2.2.2 + (sq_f i j k).2.2.2.2 + (sq_g i j k).2.2.2) (K_L_changes_350_1 (F_L_reads_F M (sq_g i j k).1 (sq_g i j k).2.1)) := by
  have k1 : ∀ y, K_L_changes_244 x M y = adc y.2.2.2.1 y.2.2.2.2 (K_L_changes_254 x M (F_J4_append_bf812 y.2.1 y.1 y.2.2.1 i)) := fun y => by obtain ⟨y0, y1, y2, y3, y4⟩ := y; rw [← e1]; rfl
  have k2 : ∀ y, K_L_changes_254 x M y = adc y.2.2.2.1 y.2.2.2.2 (K_L_changes_265 x M (F_J4_append_bf812 y.2.1 y.1 y.2.2.1 j)) := fun y => by obtain ⟨y0, y1, y2, y3, y4⟩ := y; rw [← e2]; rfl
  have k3 : ∀ y, K_L_changes_265 x M y = adc y.2.2.2.1 y.2.2.2.2 (K_L_changes_270 x M (F_J4_append_15ec4_ad29 y.2.1 y.1 y.2.2.1)) := fun y => by obtain ⟨y0, y1, y2, y3, y4⟩ := y; rfl
  have k4 : ∀ y, K_L_changes_270 x M y = adc y.2.2.2.1 y.2.2.2.2 (K_L_changes_282 M (F_J4_append_bf812 y.2.1 y.1 y.2.2.1 k)) := fun y => by obtain ⟨y0, y1, y2, y3, y4⟩ := y; rw [← e3]; rfl
  have k5 : ∀ y, K_L_changes_282 M y = adc y.2.2.2.1 y.2.2.2.2 (K_L_changes_287 M (F_J4_append_15ec4_ad30 y.2.1 y.1 y.2.2.1)) := fun y => by obtain ⟨y0, y1, y2, y3, y4⟩ := y; rfl
  have k6 : ∀ y, K_L_changes_287 M y = adc y.2.2.2.1 y.2.2.2.2 (K_L_changes_290 M (F_J4_toString_0e30d y.2.1 y.1 y.2.2.1)) := fun y => by obtain ⟨y0, y1, y2, y3, y4⟩ := y; rfl
  have k7 : ∀ y, K_L_changes_290 M y = adc y.2.2.1 y.2.2.2 (K_L_changes_350_1 (F_L_reads_F M y.1 y.2.1)) := fun y => by obtain ⟨y0, y1, y2, y3⟩ := y; rfl
  rw [k1, show F_J4_append_bf812 sq_a.2.1 sq_a.1 sq_a.2.2.1 i = sq_b i from rfl, k2, show F_J4_append_bf812 (sq_b i).2.1 (sq_b i).1 (sq_b i).2.2.1 j = sq_c i j from rfl, k3, show F_J4_append_15ec4_ad29 (sq_c i j).2.1 (sq_c i j).1 (sq_c i j).2.2.1 = sq_d i j from rfl, k4, show F_J4_append_bf812 (sq_d i j).2.1 (sq_d i j).1 (sq_d i j).2.2.1 k = sq_e i j k from rfl, k5, show F_J4_append_15ec4_ad30 (sq_e i j k).2.1 (sq_e i j k).1 (sq_e i j k).2.2.1 = sq_f i j k from rfl, k6, show F_J4_toString_0e30d (sq_f i j k).2.1 (sq_f i j k).1 (sq_f i j k).2.2.1 = sq_g i j k from rfl, k7]
  simp only [adz, Nat.add_assoc]
theorem chain_t (x : Int32) (M : MS) {i j k : Int32} (e1 : F_L_some (x >>> (4 &&& 31)) 9 = i) (e2 : F_L_some (x >>> (5 &&& 31)) 4 = j) (e3 : F_L_some (x >>> (7 &&& 31)) 4 = k) : K_L_changes_306 x M sr_a = adc (sr_a.2.2.2.1 + (sr_b i).2.2.2.1 + (sr_c i).2.2.2.1 + (sr_d i j).2.2.2.1 + (sr_e i j k).2.2.2.1 + (sr_g i j k).2.2.1) (sr_a.2.2.2.2 + (sr_b i).2.2.2.2 + (sr_c i).2.2.2.2 + (sr_d i j).2.2.2.2 + (sr_e i j k).2.2.2.2 + (sr_g i j k).2.2.2) (K_L_changes_350 (F_L_reads_F M (sr_g i j k).1 (sr_g i j k).2.1)) := by
  have k1 : ∀ y, K_L_changes_306 x M y = adc y.2.2.2.1 y.2.2.2.2 (K_L_changes_317 x M (F_J4_append_bf812 y.2.1 y.1 y.2.2.1 i)) := fun y => by obtain ⟨y0, y1, y2, y3, y4⟩ := y; rw [← e1]; rfl
  have k2 : ∀ y, K_L_changes_317 x M y = adc y.2.2.2.1 y.2.2.2.2 (K_L_changes_323 x M (F_J4_append_15ec4_ad32 y.2.1 y.1 y.2.2.1)) := fun y => by obtain ⟨y0, y1, y2, y3, y4⟩ := y; rfl
  have k3 : ∀ y, K_L_changes_323 x M y = adc y.2.2.2.1 y.2.2.2.2 (K_L_changes_333 x M (F_J4_append_bf812 y.2.1 y.1 y.2.2.1 j)) := fun y => by obtain ⟨y0, y1, y2, y3, y4⟩ := y; rw [← e2]; rfl
  have k4 : ∀ y, K_L_changes_333 x M y = adc y.2.2.2.1 y.2.2.2.2 (K_L_changes_344 M (F_J4_append_bf812 y.2.1 y.1 y.2.2.1 k)) := fun y => by obtain ⟨y0, y1, y2, y3, y4⟩ := y; rw [← e3]; rfl
  have k6 : ∀ y, K_L_changes_344 M y = adc y.2.2.2.1 y.2.2.2.2 (K_L_changes_347 M (F_J4_toString_0e30d y.2.1 y.1 y.2.2.1)) := fun y => by obtain ⟨y0, y1, y2, y3, y4⟩ := y; rfl
  have k7 : ∀ y, K_L_changes_347 M y = adc y.2.2.1 y.2.2.2 (K_L_changes_350 (F_L_reads_F M y.1 y.2.1)) := fun y => by obtain ⟨y0, y1, y2, y3⟩ := y; rfl
  rw [k1, show F_J4_append_bf812 sr_a.2.1 sr_a.1 sr_a.2.2.1 i = sr_b i from rfl, k2, show F_J4_append_15ec4_ad32 (sr_b i).2.1 (sr_b i).1 (sr_b i).2.2.1 = sr_c i from rfl, k3, show F_J4_append_bf812 (sr_c i).2.1 (sr_c i).1 (sr_c i).2.2.1 j = sr_d i j from rfl, k4, show F_J4_append_bf812 (sr_d i j).2.1 (sr_d i j).1 (sr_d i j).2.2.1 k = sr_e i j k from rfl, k6, show F_J4_toString_0e30d (sr_e i j k).2.1 (sr_e i j k).1 (sr_e i j k).2.2.1 = sr_g i j k from rfl, k7]
  simp only [adz, Nat.add_assoc]
theorem OQ.adl {α : Type} {c s a b a' b' : Nat} {M : MS} {r : α × MS × Nat × Nat} {P : α → MS → Prop} (h : OQ c s M r P) (ha : a ≤ a') (hb : b ≤ b') : OQ (c + a') (s + b') M (adc a b r) P := OQ.mono (OQ.ad h) (by omega) (by omega) (fun _ _ z => z)
theorem oq_changes {r d T Bd : Nat} {stk : List SV} {sv : Option SV} {M : MS} (h : OKS 32 r d T Bd stk sv M) (hr : r + 2 ≤ 32) (hd : d ≤ 90000) (hT : T + 400 < 500000) (hB : Bd ≤ 860000) (x : Int32) : OQ 130 800 M (F_L_changes M x) (CHP r d T Bd stk sv M) := by
  unfold F_L_changes
  rw [acc_1]
  refine OQ.mono (c := 0 + 120 + 1 + 1) (s := 0 + 700 + 6 + 6) ?_ (by omega) (by omega) (fun _ _ z => z)
  rw [kq_L_changes_5, acc_1, kq_L_changes_20]
  refine OQ.ad (OQ.ad ?_)
  by_cases c0 : F_L_some x 18 = 0
  · rw [if_pos c0]
    exact OQ.mono ((chg_of kq_L_changes_105 (rf_come h hr hd hT hB))) (by omega) (by omega) (fun _ _ z => z)
  rw [if_neg c0]
  by_cases c1 : F_L_some x 18 = 1
  · rw [if_pos c1]
    exact OQ.mono ((chg_of kq_L_changes_129 (rf_canal h hr hd hT hB _ _ _))) (by omega) (by omega) (fun _ _ z => z)
  rw [if_neg c1]
  by_cases c2 : F_L_some x 18 = 2
  · rw [if_pos c2]
    exact OQ.mono ((chg_of kq_L_changes_129 (rf_canal h hr hd hT hB _ _ _))) (by omega) (by omega) (fun _ _ z => z)
  rw [if_neg c2]
  by_cases c3 : F_L_some x 18 = 3
  · rw [if_pos c3]
    exact OQ.mono ((chg_of kq_L_changes_129 (rf_canal h hr hd hT hB _ _ _))) (by omega) (by omega) (fun _ _ z => z)
  rw [if_neg c3]
  by_cases c4 : F_L_some x 18 = 4
  · rw [if_pos c4]
    exact OQ.mono ((chg_of kq_L_changes_129 (rf_canal h hr hd hT hB _ _ _))) (by omega) (by omega) (fun _ _ z => z)
  rw [if_neg c4]
  by_cases c5 : F_L_some x 18 = 5
  · rw [if_pos c5]
    exact OQ.mono ((chg_of kq_L_changes_144 (rf_close h hr hd hT hB _ _))) (by omega) (by omega) (fun _ _ z => z)
  rw [if_neg c5]
  by_cases c6 : F_L_some x 18 = 6
  · rw [if_pos c6]
    exact OQ.mono ((chg_of kq_L_changes_144 (rf_close h hr hd hT hB _ _))) (by omega) (by omega) (fun _ _ z => z)
  rw [if_neg c6]
  by_cases c7 : F_L_some x 18 = 7
  · rw [if_pos c7]
    exact OQ.mono ((chg_of kq_L_changes_166 (rf_district h hr hd hT hB _ _))) (by omega) (by omega) (fun _ _ z => z)
  rw [if_neg c7]
  by_cases c8 : F_L_some x 18 = 8
  · rw [if_pos c8]
    exact OQ.mono ((chg_of kq_L_changes_166 (rf_district h hr hd hT hB _ _))) (by omega) (by omega) (fun _ _ z => z)
  rw [if_neg c8]
  by_cases c9 : F_L_some x 18 = 9
  · rw [if_pos c9]
    exact OQ.mono ((chg_of kq_L_changes_179 (rf_lose h hr hd hT hB))) (by omega) (by omega) (fun _ _ z => z)
  rw [if_neg c9]
  by_cases c10 : F_L_some x 18 = 10
  · rw [if_pos c10]
    exact OQ.mono ((chg_of kq_L_changes_179 (rf_lose h hr hd hT hB))) (by omega) (by omega) (fun _ _ z => z)
  rw [if_neg c10]
  by_cases c11 : F_L_some x 18 = 11
  · rw [if_pos c11]
    split
    · exact OQ.mono (chg_of kq_L_changes_213_1 (rf_pass h hr hd hT hB _)) (by omega) (by omega) (fun _ _ z => z)
    · exact OQ.mono (chg_of kq_L_changes_213 (rf_pass h hr hd hT hB _)) (by omega) (by omega) (fun _ _ z => z)
  rw [if_neg c11]
  by_cases c12 : F_L_some x 18 = 12
  · rw [if_pos c12]
    split
    · exact OQ.mono (chg_of kq_L_changes_213_1 (rf_pass h hr hd hT hB _)) (by omega) (by omega) (fun _ _ z => z)
    · exact OQ.mono (chg_of kq_L_changes_213 (rf_pass h hr hd hT hB _)) (by omega) (by omega) (fun _ _ z => z)
  rw [if_neg c12]
  by_cases c13 : F_L_some x 18 = 13
  · rw [if_pos c13]
    split
    · exact OQ.mono (chg_of kq_L_changes_213_1 (rf_pass h hr hd hT hB _)) (by omega) (by omega) (fun _ _ z => z)
    · exact OQ.mono (chg_of kq_L_changes_213 (rf_pass h hr hd hT hB _)) (by omega) (by omega) (fun _ _ z => z)
  rw [if_neg c13]
  split
  · obtain ⟨i, hi, e1⟩ := some_ex (x >>> (4 &&& 31)) (k := 4) (by omega) (by omega)
    obtain ⟨j, hj, e2⟩ := some_ex (x >>> (7 &&& 31)) (k := 4) (by omega) (by omega)
    obtain ⟨k, hk, e3⟩ := some_ex (x >>> (9 &&& 31)) (k := 10) (by omega) (by omega)
    have f := sq_fact ⟨i, hi⟩ ⟨j, hj⟩ ⟨k, hk⟩
    have g := sq_cost ⟨i, hi⟩ ⟨j, hj⟩ ⟨k, hk⟩
    have ch := chain_c x M e1 e2 e3
    replace f : (sq_g (nI i) (nI j) (nI k)).1 = 8 ∧ _ := f
    obtain ⟨f1, f2⟩ := f
    rw [f1] at ch
    show OQ _ _ M (adc 1 4 (adc 1 16 (K_L_changes_244 x M sq_a))) _
    rw [ch, adz]
    exact OQ.mono (OQ.adl (OQ.adl (chg_of kq_L_changes_350_1 (rf_textC h hr hd hT hB hi hj hk f2)) g.1 g.2) (Nat.le_refl _) (Nat.le_refl _)) (by omega) (by omega) (fun _ _ z => z)
  · obtain ⟨i, hi, e1⟩ := some_ex (x >>> (4 &&& 31)) (k := 9) (by omega) (by omega)
    obtain ⟨j, hj, e2⟩ := some_ex (x >>> (5 &&& 31)) (k := 4) (by omega) (by omega)
    obtain ⟨k, hk, e3⟩ := some_ex (x >>> (7 &&& 31)) (k := 4) (by omega) (by omega)
    have f := srr_fact ⟨i, hi⟩ ⟨j, hj⟩ ⟨k, hk⟩
    have g := srr_cost ⟨i, hi⟩ ⟨j, hj⟩ ⟨k, hk⟩
    have ch := chain_t x M e1 e2 e3
    replace f : (sr_g (nI i) (nI j) (nI k)).1 = 6 ∧ _ := f
    obtain ⟨f1, f2⟩ := f
    rw [f1] at ch
    show OQ _ _ M (adc 1 4 (adc 1 16 (K_L_changes_306 x M sr_a))) _
    rw [ch, adz]
    exact OQ.mono (OQ.adl (OQ.adl (chg_of kq_L_changes_350 (rf_textT h hr hd hT hB hi hj hk f2)) g.1 g.2) (Nat.le_refl _) (Nat.le_refl _)) (by omega) (by omega) (fun _ _ z => z)
