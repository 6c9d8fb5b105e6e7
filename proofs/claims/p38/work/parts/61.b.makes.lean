/-! SOME SURVEYORS, CANALS, DISTRICTS AND TICKS -/
theorem some_ex (x : Int32) {k : Nat} (h0 : 0 < k) (h1 : k ≤ 1000) : ∃ y : Nat, y < k ∧ F_L_some x (nI k) = nI y := by
  have e := nI_toInt (n := k) (by omega)
  obtain ⟨z1, z2⟩ := R_L_some x (nI k) (by omega)
  exact ⟨(F_L_some x (nI k)).toInt.toNat, by omega, qI_eq (by omega) (by omega)⟩
theorem n9_ex (x : Int32) : ∃ k : Nat, 3 ≤ k ∧ k ≤ 6 ∧ (3 : Int32) + F_L_some x 4 = nI k := by
  obtain ⟨y, hy, e⟩ := some_ex x (k := 4) (by omega) (by omega)
  rw [show nI 4 = (4 : Int32) from rfl] at e
  refine ⟨3 + y, by omega, by omega, ?_⟩
  rw [e]
  have key : ∀ i : Fin 4, (3 : Int32) + nI i.val = nI (3 + i.val) := by decide +kernel
  exact key ⟨y, hy⟩
theorem c9_ex (x : Int32) : ∃ k : Nat, 1 ≤ k ∧ k ≤ 9 ∧ (1 : Int32) + F_L_some x 9 = nI k := by
  obtain ⟨y, hy, e⟩ := some_ex x (k := 9) (by omega) (by omega)
  rw [show nI 9 = (9 : Int32) from rfl] at e
  refine ⟨1 + y, by omega, by omega, ?_⟩
  rw [e]
  have key : ∀ i : Fin 9, (1 : Int32) + nI i.val = nI (1 + i.val) := by decide +kernel
  exact key ⟨y, hy⟩
theorem t25_ex (x : Int32) : ∃ k : Nat, 1 ≤ k ∧ k ≤ 25 ∧ (1 : Int32) + F_L_some x 25 = nI k := by
  obtain ⟨y, hy, e⟩ := some_ex x (k := 25) (by omega) (by omega)
  rw [show nI 25 = (25 : Int32) from rfl] at e
  refine ⟨1 + y, by omega, by omega, ?_⟩
  rw [e]
  have key : ∀ i : Fin 25, (1 : Int32) + nI i.val = nI (1 + i.val) := by decide +kernel
  exact key ⟨y, hy⟩
def MK (k9 j : Nat) (N : MS) : Prop := ∃ stk, OKS 32 (1 + j) (6 + 2 * j) j (37 + 12 * j) stk none N ∧ nS N.1 = nI k9 ∧ ∀ a, a < 6 → N.1.1 a = 0
theorem nn_nI {k : Nat} (h : k < 2 ^ 31) : ¬ nI k < 0 := by rw [Int32.lt_iff_toInt_lt, nI_toInt h, i0]; omega
theorem nn_of {v : Int32} (h : 0 ≤ v.toInt) : (0 : Int32) ≤ v := by rw [Int32.le_iff_toInt_le, i0]; exact h
theorem nlt_of {v : Int32} (h : 0 ≤ v.toInt) : ¬ v < 0 := by rw [Int32.lt_iff_toInt_lt, i0]; omega
theorem ag5_nI {t : Nat} (h1 : 1 ≤ t) (h2 : t ≤ 99) : (F_X8_against_ad5 (nI t)).1 = 0 := by
  rw [ag5_eq, if_neg (by rw [Int32.lt_iff_toInt_lt, nI_toInt (by omega), i1]; omega), if_neg (by rw [Int32.lt_iff_toInt_lt, nI_toInt (by omega), show (99 : Int32).toInt = 99 from by decide]; omega)]
/-- a tick, or none, behind a canal -/
theorem mk_cont {k9 j c s : Nat} {Q : Int32 → MS → Prop} {rc : Int32 → MS → (Int32 × MS × Nat × Nat)} {K : (Int32 × MS × Nat × Nat) → (Int32 × MS × Nat × Nat)} (hK : ∀ v N c s, K (v, N, c, s) = adc c s (if 0 ≤ v then rc (nI j + 1) N else (0, N, 0, 0))) (hrc : ∀ N, MK k9 (j + 1) N → OQ c s N (rc (nI (j + 1)) N) Q) (hj : j < 8) (hk : 3 ≤ k9) (hk6 : k9 ≤ 6) {N : MS} {stk : List SV} (h : OKS 32 (1 + (j + 1)) (6 + 2 * (j + 1)) j (37 + 12 * j + 6) stk none N) (hn : nS N.1 = nI k9) (hz : ∀ a, a < 6 → N.1.1 a = 0) (x : Int32) :
    OQ (c + 20) (s + 100) N (if x = 0 then K (F_L_pass N 1) else rc (nI j + 1) N) Q := by
  by_cases hc : x = 0
  · rw [if_pos hc]
    refine OQ.bind (K := K) _ hK (oq_pass1 1 h (by omega) rfl (by omega) (by rw [hn, nI_toInt (by omega)]; omega) (by omega) (by omega) (by omega) (by omega) (by decide)) (fun v N' hP => ?_)
    obtain ⟨p1, p2, p3, p4, p5⟩ := hP
    show OQ c s N' (if 0 ≤ v then rc (nI j + 1) N' else (0, N', 0, 0)) Q
    rw [if_pos (nn_of p3), qI_succ (by omega)]
    exact hrc N' ⟨_, OKS.mono p1 (by omega) (by omega) (by omega) (by omega) (by omega), by rw [p5, hn], fun a ha => by rw [p4]; exact hz a ha⟩
  · rw [if_neg hc, qI_succ (by omega)]
    exact OQ.mono (hrc N ⟨_, OKS.mono h (by omega) (by omega) (by omega) (by omega) (by omega), hn, hz⟩) (by omega) (by omega) (fun _ _ z => z)
def MKD (v : Int32) (N : MS) : Prop := v = 1 ∧ ∃ stk k9, OKS 32 12 28 107 733 stk none N ∧ 3 ≤ k9 ∧ k9 ≤ 6 ∧ nS N.1 = nI k9
theorem mk_pass {k9 : Nat} {len1 : Nat} {xs1 : Nat → Int32} {K : (Int32 × MS × Nat × Nat) → (Int32 × MS × Nat × Nat)} (hK : ∀ v N c s, K (v, N, c, s) = adc c s (if v < 0 then (0, N, 0, 0) else (1, N, 0, 0))) (hk : 3 ≤ k9) (hk6 : k9 ≤ 6) {N : MS} {stk : List SV} (h : OKS 32 10 28 8 139 stk none N) (hn : nS N.1 = nI k9) :
    OQ 20 100 N (K (F_L_pass N ((1 : Int32) + (F_L_some (F_L_at xs1 len1 10) 25)))) MKD := by
  obtain ⟨t, t1, t2, et⟩ := t25_ex (F_L_at xs1 len1 10)
  rw [et]
  refine OQ.bind (c2 := 0) (s2 := 0) (K := K) _ hK (oq_pass _ h (by omega) (by omega) (by omega) (by omega) (by omega) (ag5_nI t1 (by omega))) (fun v N' hP => ?_)
  obtain ⟨p1, p2, t', p3, p4, p5, p6, p7, p8, p9⟩ := hP
  show OQ 0 0 N' (if v < 0 then (0, N', 0, 0) else (1, N', 0, 0)) MKD
  rw [if_neg (nlt_of p5)]
  exact OQ.ret ⟨rfl, _, k9, OKS.mono p1 (by omega) (by omega) (by omega) (by omega) (by omega), hk, hk6, by rw [p8, hn]⟩
theorem ag1_nI {cs : Nat → Int32} {n x y v : Nat} (hn : n ≤ 6) (hx : x < n) (hy : y < n) (h1 : 1 ≤ v) (h9 : v ≤ 9) : F_X8_against_ad1 cs (nI n) (nI x) (nI y) (nI v) = if x = y then (1, 4, nI x) else if cs (6 * x + y) = nI v then (1, 5, 0) else (0, 0, 0) := by
  rw [ag1_eq, has_nI (by omega) (by omega), has_nI (by omega) (by omega), if_pos hx, if_pos hy, if_neg (by decide), if_neg (by decide), cost_nI (by omega) (by omega)]
  have a1 : ¬ nI v < 1 := by rw [Int32.lt_iff_toInt_lt, nI_toInt (by omega), i1]; omega
  have a9 : nI v ≤ 9 := by rw [Int32.le_iff_toInt_le, nI_toInt (by omega), show (9 : Int32).toInt = 9 from by decide]; omega
  rw [if_neg a1, if_pos a9]
  by_cases c : x = y
  · rw [if_pos c, if_pos (by rw [c])]
  · rw [if_neg c, if_neg (fun z => c ((qI_inj (by omega) (by omega)).mp z))]
theorem mk_canals (len1 : Nat) (xs1 : Nat → Int32) {k9 : Nat} (hk : 3 ≤ k9) (hk6 : k9 ≤ 6) (e9 : (3 : Int32) + (F_L_some (F_L_at xs1 len1 0) 4) = nI k9) : ∀ (m j : Nat) (N : MS), j + m = 8 → MK k9 j N → OQ (40 + 60 * m) (200 + 300 * m) N (L_L_makes_37 len1 xs1 (m + 1) (nI j) N) MKD := by
  intro m
  induction m with
  | zero =>
    intro j N hj hN
    have ej : j = 8 := by omega
    subst ej
    obtain ⟨stk, h, hn, hz⟩ := hN
    rw [show L_L_makes_37 len1 xs1 (0 + 1) (nI 8) N = B_L_makes_37 len1 xs1 (L_L_makes_37 len1 xs1 0) (nI 8) N from rfl]
    unfold B_L_makes_37
    rw [if_pos (by decide), e9]
    by_cases c : F_L_at xs1 len1 9 &&& 1 = 0
    · rw [if_pos c]
      obtain ⟨x, hx, ex⟩ := some_ex (F_L_at xs1 len1 9 >>> (1 &&& 31)) (k := k9) (by omega) (by omega)
      rw [ex]
      have hag : (F_X8_against_ad3 N.1.1 (nS N.1) (nI x) 1).1 = 0 := by
        rw [ag3_eq, hn, has_nI (by omega) (by omega), if_pos hx, if_neg (by decide), if_neg (by decide), if_pos (by decide), qI_ix (by omega), hz x (by omega), if_neg (by decide)]
      refine OQ.bind (c2 := 20) (s2 := 100) (c1 := 20) (s1 := 100) (K := K_L_makes_176 len1 xs1) _ (kq_L_makes_176 len1 xs1) (oq_district _ _ h (by omega) (by omega) (by omega) (by omega) (by omega) hag) (fun v N' hP => ?_)
      obtain ⟨p1, p2, x', p3, p4, p5, p6, p7⟩ := hP
      have e0 : v = 0 := by rw [p5]; exact hz x' p3
      rw [if_pos e0]
      exact mk_pass (K := K_L_makes_198_1) kq_L_makes_198_1 hk hk6 (OKS.mono p1 (by omega) (by omega) (by omega) (by omega) (by omega)) (by rw [p7, hn])
    · rw [if_neg c]
      exact OQ.mono (mk_pass (K := K_L_makes_198) kq_L_makes_198 hk hk6 (OKS.mono h (by omega) (by omega) (by omega) (by omega) (by omega)) hn) (by omega) (by omega) (fun _ _ z => z)
  | succ m ih =>
    intro j N hj hN
    obtain ⟨stk, h, hn, hz⟩ := hN
    rw [show L_L_makes_37 len1 xs1 (m + 1 + 1) (nI j) N = B_L_makes_37 len1 xs1 (L_L_makes_37 len1 xs1 (m + 1)) (nI j) N from rfl]
    unfold B_L_makes_37
    rw [if_neg (show ¬ (8 : Int32) ≤ nI j by rw [show (8 : Int32) = nI 8 from rfl, qI_le (by omega) (by omega)]; omega), e9]
    have hrc : ∀ N, MK k9 (j + 1) N → OQ (40 + 60 * m) (200 + 300 * m) N (L_L_makes_37 len1 xs1 (m + 1) (nI (j + 1)) N) MKD := fun N hN => ih (j + 1) N (by omega) hN
    obtain ⟨x, hx, ex⟩ := some_ex (F_L_at xs1 len1 ((1 : Int32) + nI j) ^^^ (nI j * 7919)) (k := k9) (by omega) (by omega)
    obtain ⟨y, hy, ey⟩ := some_ex ((F_L_at xs1 len1 ((1 : Int32) + nI j) ^^^ (nI j * 7919)) >>> (3 &&& 31)) (k := k9) (by omega) (by omega)
    obtain ⟨v9, hv1, hv9, ev⟩ := c9_ex ((F_L_at xs1 len1 ((1 : Int32) + nI j) ^^^ (nI j * 7919)) >>> (6 &&& 31))
    rw [ex, ey, ev]
    have hag := ag1_nI (cs := N.1.2.1) hk6 hx hy hv1 hv9
    by_cases c1 : x = y
    · rw [if_pos c1, ← hn] at hag
      refine OQ.mono (c := 40 + 60 * m + 20 + 1 + 20) (s := 200 + 300 * m + 100 + 6 + 100) ?_ (by omega) (by omega) (fun _ _ z => z)
      refine OQ.bind (K := K_L_makes_93 len1 xs1 (nI j) (L_L_makes_37 len1 xs1 (m + 1))) _ (kq_L_makes_93 len1 xs1 (nI j) (L_L_makes_37 len1 xs1 (m + 1))) (ref_canal N (nI x) (nI y) (nI v9) hag) (fun v N' hP => ?_)
      obtain ⟨rfl, rfl⟩ := hP
      rw [if_neg (by decide)]
      refine OQ.bind (c1 := 1) (s1 := 6) (K := K_L_makes_106 len1 xs1 (nI j) (L_L_makes_37 len1 xs1 (m + 1))) _ (kq_L_makes_106 len1 xs1 (nI j) (L_L_makes_37 len1 xs1 (m + 1))) (oq_q (rea00 N 4 (nI x))) (fun v N' hP => ?_)
      obtain ⟨rfl, rfl⟩ := hP
      rw [if_pos (by decide)]
      exact mk_cont (kq_L_makes_137_1 (nI j) (L_L_makes_37 len1 xs1 (m + 1))) hrc (by omega) hk hk6 (OKS.mono (OKS.setK h _ _) (by omega) (by omega) (by omega) (by omega) (by omega)) (by rw [setK_1]; exact hn) (by rw [setK_1]; exact hz) _
    · rw [if_neg c1] at hag
      by_cases c2 : N.1.2.1 (6 * x + y) = nI v9
      · rw [if_pos c2, ← hn] at hag
        refine OQ.mono (c := 40 + 60 * m + 20 + 1 + 1 + 20) (s := 200 + 300 * m + 100 + 6 + 6 + 100) ?_ (by omega) (by omega) (fun _ _ z => z)
        refine OQ.bind (K := K_L_makes_93 len1 xs1 (nI j) (L_L_makes_37 len1 xs1 (m + 1))) _ (kq_L_makes_93 len1 xs1 (nI j) (L_L_makes_37 len1 xs1 (m + 1))) (ref_canal N (nI x) (nI y) (nI v9) hag) (fun v N' hP => ?_)
        obtain ⟨rfl, rfl⟩ := hP
        rw [if_neg (by decide)]
        refine OQ.bind (c1 := 1) (s1 := 6) (K := K_L_makes_106 len1 xs1 (nI j) (L_L_makes_37 len1 xs1 (m + 1))) _ (kq_L_makes_106 len1 xs1 (nI j) (L_L_makes_37 len1 xs1 (m + 1))) (oq_q (rea00 N 5 0)) (fun v N' hP => ?_)
        obtain ⟨rfl, rfl⟩ := hP
        rw [if_neg (by decide)]
        refine OQ.bind (c1 := 1) (s1 := 6) (K := K_L_makes_116 len1 xs1 (nI j) (L_L_makes_37 len1 xs1 (m + 1))) _ (kq_L_makes_116 len1 xs1 (nI j) (L_L_makes_37 len1 xs1 (m + 1))) (oq_q (rea00 N 5 0)) (fun v N' hP => ?_)
        obtain ⟨rfl, rfl⟩ := hP
        rw [if_pos (by decide)]
        exact mk_cont (kq_L_makes_137_2 (nI j) (L_L_makes_37 len1 xs1 (m + 1))) hrc (by omega) hk hk6 (OKS.mono (OKS.setK h _ _) (by omega) (by omega) (by omega) (by omega) (by omega)) (by rw [setK_1]; exact hn) (by rw [setK_1]; exact hz) _
      · rw [if_neg c2, ← hn] at hag
        refine OQ.mono (c := 40 + 60 * m + 20 + 20) (s := 200 + 300 * m + 100 + 100) ?_ (by omega) (by omega) (fun _ _ z => z)
        refine OQ.bind (K := K_L_makes_93 len1 xs1 (nI j) (L_L_makes_37 len1 xs1 (m + 1))) _ (kq_L_makes_93 len1 xs1 (nI j) (L_L_makes_37 len1 xs1 (m + 1))) (oq_canal (nI x) (nI y) (nI v9) h (by omega) (by omega) (by omega) (by omega) (by omega) (by rw [hag])) (fun v N' hP => ?_)
        obtain ⟨p1, p2, x', y', q1, q2, q3, q4, q5, q6, q7, q8, q9, q10, q11⟩ := hP
        rw [if_pos (nn_of q7)]
        exact mk_cont (kq_L_makes_137 (nI j) (L_L_makes_37 len1 xs1 (m + 1))) hrc (by omega) hk hk6 (OKS.mono p1 (by omega) (by omega) (by omega) (by omega) (by omega)) (by rw [q10, hn]) (fun a ha => by rw [q8]; exact hz a ha) _
theorem mk_comes (len1 : Nat) (xs1 : Nat → Int32) {k9 : Nat} (hk : 3 ≤ k9) (hk6 : k9 ≤ 6) (e9 : (3 : Int32) + (F_L_some (F_L_at xs1 len1 0) 4) = nI k9) : ∀ (m i : Nat) (N : MS), i + m = k9 → (∃ stk, OKS 32 1 i 0 (1 + 6 * i) stk none N ∧ nS N.1 = nI i ∧ ∀ a, a < 6 → N.1.1 a = 0) → OQ (520 + 20 * m) (2600 + 100 * m) N (L_L_makes_14 len1 xs1 (m + 1) (nI i) N) MKD := by
  intro m
  induction m with
  | zero =>
    intro i N hi hN
    have ei : i = k9 := by omega
    subst ei
    obtain ⟨stk, h, hn, hz⟩ := hN
    rw [show L_L_makes_14 len1 xs1 (0 + 1) (nI i) N = B_L_makes_14 len1 xs1 (L_L_makes_14 len1 xs1 0) (nI i) N from rfl]
    unfold B_L_makes_14
    rw [e9, if_pos (by rw [qI_le (by omega) (by omega)]; omega), show (((8 : Int32).toInt - (0 : Int32).toInt).toNat + 1) = 8 + 1 from by decide]
    exact OQ.mono (mk_canals len1 xs1 hk hk6 e9 8 0 N (by omega) ⟨stk, OKS.mono h (by omega) (by omega) (by omega) (by omega) (by omega), hn, hz⟩) (by omega) (by omega) (fun _ _ z => z)
  | succ m ih =>
    intro i N hi hN
    obtain ⟨stk, h, hn, hz⟩ := hN
    rw [show L_L_makes_14 len1 xs1 (m + 1 + 1) (nI i) N = B_L_makes_14 len1 xs1 (L_L_makes_14 len1 xs1 (m + 1)) (nI i) N from rfl]
    unfold B_L_makes_14
    rw [e9, if_neg (by rw [qI_le (by omega) (by omega)]; omega)]
    refine OQ.mono (c := 520 + 20 * m + 20) (s := 2600 + 100 * m + 100) ?_ (by omega) (by omega) (fun _ _ z => z)
    refine OQ.bind (K := K_L_makes_20 (nI i) (L_L_makes_14 len1 xs1 (m + 1))) _ (kq_L_makes_20 (nI i) (L_L_makes_14 len1 xs1 (m + 1))) (oq_come h (by omega) (by omega) (by omega) (by omega) (by omega) (by omega) (by rw [hn, ag0_eq, if_neg (by rw [show (6 : Int32) = nI 6 from rfl, qI_le (by omega) (by omega)]; omega)])) (fun v N' hP => ?_)
    obtain ⟨p1, p2, p3, p4, p5, p6, p7, p8⟩ := hP
    rw [if_pos (by rw [p3, hn]), qI_succ (by omega)]
    exact ih (i + 1) N' (by omega) ⟨_, OKS.mono p1 (by omega) (by omega) (by omega) (by omega) (by omega), by rw [p6, hn, qI_succ (by omega)], fun a ha => by rw [p4]; exact hz a ha⟩
/-- makes does as it says -/
theorem oq_makes (len1 : Nat) (xs1 : Nat → Int32) : OQ 640 3200 M0_ (F_L_makes M0_ len1 xs1) MKD := by
  obtain ⟨k9, hk, hk6, e9⟩ := n9_ex (F_L_at xs1 len1 0)
  unfold F_L_makes
  rw [e9, show ((nI k9 : Int32).toInt - (0 : Int32).toInt).toNat + 1 = k9 + 1 from by rw [nI_toInt (by omega), i0]; omega]
  exact OQ.mono (mk_comes len1 xs1 hk hk6 e9 k9 0 M0_ (by omega) ⟨[], OKS.mono (oks_M0 32) (by omega) (by omega) (by omega) (by omega) (by omega), m0_n, fun a _ => rfl⟩) (by omega) (by omega) (fun _ _ z => z)
