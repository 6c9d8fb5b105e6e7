/-! REFUSED CALLS LEAVE THE STATE UNCHANGED -/
/-- what stays through refused calls and queries -/
def RS (r d T Bd : Nat) (stk : List SV) (sv : Option SV) (S0 : SV) (P0 : List PG) (N9 : Nat) (N : MS) : Prop := OKS 32 r d T Bd stk sv N ∧ N.1 = S0 ∧ (∃ Q, arch N = P0 ++ Q) ∧ nS N.1 = nI N9
theorem RS.setK {r d T Bd : Nat} {stk : List SV} {sv : Option SV} {S0 : SV} {P0 : List PG} {N9 : Nat} {N : MS} (h : RS r d T Bd stk sv S0 P0 N9 N) (a b : Int32) : RS r d T Bd stk sv S0 P0 N9 (setK N a b) := by
  obtain ⟨h1, h2, h3, h4⟩ := h
  exact ⟨OKS.setK h1 a b, by rw [setK_1]; exact h2, by rw [setK_arch]; exact h3, by rw [setK_1]; exact h4⟩
theorem RS.setW {r d T Bd : Nat} {stk : List SV} {sv : Option SV} {S0 : SV} {P0 : List PG} {N9 : Nat} {N : MS} (h : RS r d T Bd stk sv S0 P0 N9 N) {a b : Nat → Int32} (ha : Zf 36 a) (hb : Zf 6 b) : RS r d T Bd stk sv S0 P0 N9 (setW N a b) := by
  obtain ⟨h1, h2, h3, h4⟩ := h
  exact ⟨OKS.setW h1 ha hb, by rw [(setW_1 N a b).1]; exact h2, by rw [(setW_1 N a b).2]; exact h3, by rw [(setW_1 N a b).1]; exact h4⟩
theorem hs_n {N9 : Nat} (h6 : N9 ≤ 6) : F_X8_has (nI N9) (nI N9) = 0 := by rw [has_nI (by omega) (by omega), if_neg (Nat.lt_irrefl _)]
theorem hs_y {N9 x : Nat} (h6 : N9 ≤ 6) (hx : x < N9) : ¬ F_X8_has (nI N9) (nI x) = 0 := by rw [has_nI (by omega) (by omega), if_pos hx]; decide
theorem hs_m (n : Int32) : F_X8_has n (-1) = 0 := by
  unfold F_X8_has
  rw [if_pos (show (-1 : Int32) < 0 from by decide)]
theorem ref_main {r d T Bd : Nat} {stk : List SV} {sv : Option SV} {S0 : SV} {P0 : List PG} {N9 : Nat} {N : MS} {sum : Int64} (hN : RS r d T Bd stk sv S0 P0 N9 N) (hA : AN S0 P0 sum) (h3 : 3 ≤ N9) (h6 : N9 ≤ 6) (hr : r + 3 ≤ 32) (hd : d ≤ 90000) (hT : T + 400 < 500000) (hB : Bd ≤ 850000) : OQ (9010 + 1400) (40060 + 7000) N (K_L_refused_7 sum (F_L_account N 1)) (fun v N' => v = 1 ∧ OKS 32 r d T (Bd + 162 + 162 + 600) stk sv N' ∧ (∃ Q, arch N' = P0 ++ Q) ∧ N'.1 = S0) := by
  rw [show F_L_account N 1 = (nI N9, N, 1, 6) from by rw [acc_1, hN.2.2.2]]
  refine OQ.bind (c1 := 20) (s1 := 100) (c2 := 9010 + 1380) (s2 := 40060 + 6900) (K := K_L_refused_7 sum) _ (kq_L_refused_7 sum) (OQ.mono (oq_q (Eq.refl (nI N9, N, 1, 6))) (by omega) (by omega) (fun _ _ z => z)) (fun v N1 hP => ?_)
  obtain ⟨rfl, hN1⟩ := hP
  rw [hN1]
  have hag : F_X8_against_ad1 N.1.2.1 (nS N.1) (nI N9) (nI N9) 0 = (1, 3, (nI N9)) := by
    rw [ag1_eq, hN.2.2.2, if_pos (hs_n h6)]
  refine OQ.bind (c1 := 20) (s1 := 100) (c2 := 9010 + 1360) (s2 := 40060 + 6800) (K := K_L_refused_15 sum (nI N9)) _ (kq_L_refused_15 sum (nI N9)) (OQ.mono (ref_canal N (nI N9) (nI N9) 0 hag) (by omega) (by omega) (fun _ _ z => z)) (fun v N1 hP => ?_)
  obtain ⟨rfl, rfl⟩ := hP
  rw [if_pos rfl]
  refine OQ.bind (c1 := 20) (s1 := 100) (c2 := 9010 + 1340) (s2 := 40060 + 6700) (K := K_L_refused_27 sum (nI N9)) _ (kq_L_refused_27 sum (nI N9)) (OQ.mono (oq_is N 3 (nI N9)) (by omega) (by omega) (fun _ _ z => z)) (fun v N1 hP => ?_)
  obtain ⟨rfl, rfl⟩ := hP
  rw [if_neg (by decide)]
  replace hN := RS.setK hN 3 (nI N9)
  clear hag
  generalize setK N 3 (nI N9) = N at hN ⊢
  have hag : F_X8_against_ad1 N.1.2.1 (nS N.1) 0 (nI N9) 0 = (1, 3, (nI N9)) := by
    rw [ag1_eq, hN.2.2.2, if_neg (show ¬ F_X8_has (nI N9) 0 = 0 from hs_y (x := 0) h6 (by omega)), if_pos (hs_n h6)]
  refine OQ.bind (c1 := 20) (s1 := 100) (c2 := 9010 + 1320) (s2 := 40060 + 6600) (K := K_L_refused_37 sum (nI N9)) _ (kq_L_refused_37 sum (nI N9)) (OQ.mono (ref_canal N 0 (nI N9) 0 hag) (by omega) (by omega) (fun _ _ z => z)) (fun v N1 hP => ?_)
  obtain ⟨rfl, rfl⟩ := hP
  rw [if_pos rfl]
  refine OQ.bind (c1 := 20) (s1 := 100) (c2 := 9010 + 1300) (s2 := 40060 + 6500) (K := K_L_refused_49 sum (nI N9)) _ (kq_L_refused_49 sum (nI N9)) (OQ.mono (oq_is N 3 (nI N9)) (by omega) (by omega) (fun _ _ z => z)) (fun v N1 hP => ?_)
  obtain ⟨rfl, rfl⟩ := hP
  rw [if_neg (by decide)]
  replace hN := RS.setK hN 3 (nI N9)
  clear hag
  generalize setK N 3 (nI N9) = N at hN ⊢
  have hag : F_X8_against_ad1 N.1.2.1 (nS N.1) 0 (-1) 5 = (1, 3, (-1)) := by
    rw [ag1_eq, hN.2.2.2, if_neg (show ¬ F_X8_has (nI N9) 0 = 0 from hs_y (x := 0) h6 (by omega)), if_pos (hs_m _)]
  refine OQ.bind (c1 := 20) (s1 := 100) (c2 := 9010 + 1280) (s2 := 40060 + 6400) (K := K_L_refused_59 sum (nI N9)) _ (kq_L_refused_59 sum (nI N9)) (OQ.mono (ref_canal N 0 (-1) 5 hag) (by omega) (by omega) (fun _ _ z => z)) (fun v N1 hP => ?_)
  obtain ⟨rfl, rfl⟩ := hP
  rw [if_pos rfl]
  refine OQ.bind (c1 := 20) (s1 := 100) (c2 := 9010 + 1260) (s2 := 40060 + 6300) (K := K_L_refused_71 sum (nI N9)) _ (kq_L_refused_71 sum (nI N9)) (OQ.mono (oq_is N 3 (-1)) (by omega) (by omega) (fun _ _ z => z)) (fun v N1 hP => ?_)
  obtain ⟨rfl, rfl⟩ := hP
  rw [if_neg (by decide)]
  replace hN := RS.setK hN 3 (-1)
  clear hag
  generalize setK N 3 (-1) = N at hN ⊢
  have hag : F_X8_against_ad1 N.1.2.1 (nS N.1) 1 1 0 = (1, 4, 1) := by
    rw [ag1_eq, hN.2.2.2, if_neg (show ¬ F_X8_has (nI N9) 1 = 0 from hs_y (x := 1) h6 (by omega)), if_neg (show ¬ F_X8_has (nI N9) 1 = 0 from hs_y (x := 1) h6 (by omega)), if_pos rfl]
  refine OQ.bind (c1 := 20) (s1 := 100) (c2 := 9010 + 1240) (s2 := 40060 + 6200) (K := K_L_refused_81 sum (nI N9)) _ (kq_L_refused_81 sum (nI N9)) (OQ.mono (ref_canal N 1 1 0 hag) (by omega) (by omega) (fun _ _ z => z)) (fun v N1 hP => ?_)
  obtain ⟨rfl, rfl⟩ := hP
  rw [if_pos rfl]
  refine OQ.bind (c1 := 20) (s1 := 100) (c2 := 9010 + 1220) (s2 := 40060 + 6100) (K := K_L_refused_93 sum (nI N9)) _ (kq_L_refused_93 sum (nI N9)) (OQ.mono (oq_is N 4 1) (by omega) (by omega) (fun _ _ z => z)) (fun v N1 hP => ?_)
  obtain ⟨rfl, rfl⟩ := hP
  rw [if_neg (by decide)]
  replace hN := RS.setK hN 4 1
  clear hag
  generalize setK N 4 1 = N at hN ⊢
  have hag : F_X8_against_ad1 N.1.2.1 (nS N.1) 0 1 0 = (1, 1, 0) := by
    rw [ag1_eq, hN.2.2.2, if_neg (show ¬ F_X8_has (nI N9) 0 = 0 from hs_y (x := 0) h6 (by omega)), if_neg (show ¬ F_X8_has (nI N9) 1 = 0 from hs_y (x := 1) h6 (by omega)), if_neg (by decide), if_pos (by decide)]
  refine OQ.bind (c1 := 20) (s1 := 100) (c2 := 9010 + 1200) (s2 := 40060 + 6000) (K := K_L_refused_104 sum (nI N9)) _ (kq_L_refused_104 sum (nI N9)) (OQ.mono (ref_canal N 0 1 0 hag) (by omega) (by omega) (fun _ _ z => z)) (fun v N1 hP => ?_)
  obtain ⟨rfl, rfl⟩ := hP
  refine OQ.bind (c1 := 20) (s1 := 100) (c2 := 9010 + 1180) (s2 := 40060 + 5900) (K := K_L_refused_107 sum (nI N9)) _ (kq_L_refused_107 sum (nI N9)) (OQ.mono (oq_range N) (by omega) (by omega) (fun _ _ z => z)) (fun v N1 hP => ?_)
  obtain ⟨rfl, rfl⟩ := hP
  rw [if_neg (by decide)]
  replace hN := RS.setK hN 1 0
  clear hag
  generalize setK N 1 0 = N at hN ⊢
  have hag : F_X8_against_ad1 N.1.2.1 (nS N.1) 0 1 10 = (1, 1, 0) := by
    rw [ag1_eq, hN.2.2.2, if_neg (show ¬ F_X8_has (nI N9) 0 = 0 from hs_y (x := 0) h6 (by omega)), if_neg (show ¬ F_X8_has (nI N9) 1 = 0 from hs_y (x := 1) h6 (by omega)), if_neg (by decide), if_neg (by decide), if_neg (by decide)]
  refine OQ.bind (c1 := 20) (s1 := 100) (c2 := 9010 + 1160) (s2 := 40060 + 5800) (K := K_L_refused_119 sum (nI N9)) _ (kq_L_refused_119 sum (nI N9)) (OQ.mono (ref_canal N 0 1 10 hag) (by omega) (by omega) (fun _ _ z => z)) (fun v N1 hP => ?_)
  obtain ⟨rfl, rfl⟩ := hP
  refine OQ.bind (c1 := 20) (s1 := 100) (c2 := 9010 + 1140) (s2 := 40060 + 5700) (K := K_L_refused_122 sum (nI N9)) _ (kq_L_refused_122 sum (nI N9)) (OQ.mono (oq_range N) (by omega) (by omega) (fun _ _ z => z)) (fun v N1 hP => ?_)
  obtain ⟨rfl, rfl⟩ := hP
  rw [if_neg (by decide)]
  replace hN := RS.setK hN 1 0
  clear hag
  generalize setK N 1 0 = N at hN ⊢
  have hag : F_X8_against_ad2 N.1.2.1 (nS N.1) (nI N9) 0 = (1, 3, (nI N9)) := by
    rw [ag2_eq, hN.2.2.2, if_pos (hs_n h6)]
  refine OQ.bind (c1 := 20) (s1 := 100) (c2 := 9010 + 1120) (s2 := 40060 + 5600) (K := K_L_refused_131 sum (nI N9)) _ (kq_L_refused_131 sum (nI N9)) (OQ.mono (ref_close N (nI N9) 0 hag) (by omega) (by omega) (fun _ _ z => z)) (fun v N1 hP => ?_)
  obtain ⟨rfl, rfl⟩ := hP
  rw [if_pos rfl]
  refine OQ.bind (c1 := 20) (s1 := 100) (c2 := 9010 + 1100) (s2 := 40060 + 5500) (K := K_L_refused_143 sum (nI N9)) _ (kq_L_refused_143 sum (nI N9)) (OQ.mono (oq_is N 3 (nI N9)) (by omega) (by omega) (fun _ _ z => z)) (fun v N1 hP => ?_)
  obtain ⟨rfl, rfl⟩ := hP
  rw [if_neg (by decide)]
  replace hN := RS.setK hN 3 (nI N9)
  clear hag
  generalize setK N 3 (nI N9) = N at hN ⊢
  have hag : F_X8_against_ad2 N.1.2.1 (nS N.1) 0 (-1) = (1, 3, (-1)) := by
    rw [ag2_eq, hN.2.2.2, if_neg (show ¬ F_X8_has (nI N9) 0 = 0 from hs_y (x := 0) h6 (by omega)), if_pos (hs_m _)]
  refine OQ.bind (c1 := 20) (s1 := 100) (c2 := 9010 + 1080) (s2 := 40060 + 5400) (K := K_L_refused_152 sum (nI N9)) _ (kq_L_refused_152 sum (nI N9)) (OQ.mono (ref_close N 0 (-1) hag) (by omega) (by omega) (fun _ _ z => z)) (fun v N1 hP => ?_)
  obtain ⟨rfl, rfl⟩ := hP
  rw [if_pos rfl]
  refine OQ.bind (c1 := 20) (s1 := 100) (c2 := 9010 + 1060) (s2 := 40060 + 5300) (K := K_L_refused_164 sum (nI N9)) _ (kq_L_refused_164 sum (nI N9)) (OQ.mono (oq_is N 3 (-1)) (by omega) (by omega) (fun _ _ z => z)) (fun v N1 hP => ?_)
  obtain ⟨rfl, rfl⟩ := hP
  rw [if_neg (by decide)]
  replace hN := RS.setK hN 3 (-1)
  clear hag
  generalize setK N 3 (-1) = N at hN ⊢
  have hag : F_X8_against_ad2 N.1.2.1 (nS N.1) 2 2 = (1, 4, 2) := by
    rw [ag2_eq, hN.2.2.2, if_neg (show ¬ F_X8_has (nI N9) 2 = 0 from hs_y (x := 2) h6 (by omega)), if_neg (show ¬ F_X8_has (nI N9) 2 = 0 from hs_y (x := 2) h6 (by omega)), if_pos rfl]
  refine OQ.bind (c1 := 20) (s1 := 100) (c2 := 9010 + 1040) (s2 := 40060 + 5200) (K := K_L_refused_173 sum (nI N9)) _ (kq_L_refused_173 sum (nI N9)) (OQ.mono (ref_close N 2 2 hag) (by omega) (by omega) (fun _ _ z => z)) (fun v N1 hP => ?_)
  obtain ⟨rfl, rfl⟩ := hP
  rw [if_pos rfl]
  refine OQ.bind (c1 := 20) (s1 := 100) (c2 := 9010 + 1020) (s2 := 40060 + 5100) (K := K_L_refused_185 sum (nI N9)) _ (kq_L_refused_185 sum (nI N9)) (OQ.mono (oq_is N 4 2) (by omega) (by omega) (fun _ _ z => z)) (fun v N1 hP => ?_)
  obtain ⟨rfl, rfl⟩ := hP
  rw [if_neg (by decide)]
  replace hN := RS.setK hN 4 2
  clear hag
  generalize setK N 4 2 = N at hN ⊢
  have hag : F_X8_against_ad3 N.1.1 (nS N.1) (nI N9) 9 = (1, 3, (nI N9)) := by
    rw [ag3_eq, hN.2.2.2, if_pos (hs_n h6)]
  refine OQ.bind (c1 := 20) (s1 := 100) (c2 := 9010 + 1000) (s2 := 40060 + 5000) (K := K_L_refused_195 sum (nI N9)) _ (kq_L_refused_195 sum (nI N9)) (OQ.mono (ref_district N (nI N9) 9 hag) (by omega) (by omega) (fun _ _ z => z)) (fun v N1 hP => ?_)
  obtain ⟨rfl, rfl⟩ := hP
  rw [if_pos rfl]
  refine OQ.bind (c1 := 20) (s1 := 100) (c2 := 9010 + 980) (s2 := 40060 + 4900) (K := K_L_refused_207 sum (nI N9)) _ (kq_L_refused_207 sum (nI N9)) (OQ.mono (oq_is N 3 (nI N9)) (by omega) (by omega) (fun _ _ z => z)) (fun v N1 hP => ?_)
  obtain ⟨rfl, rfl⟩ := hP
  rw [if_neg (by decide)]
  replace hN := RS.setK hN 3 (nI N9)
  clear hag
  generalize setK N 3 (nI N9) = N at hN ⊢
  have hag : F_X8_against_ad3 N.1.1 (nS N.1) 0 3 = (1, 1, 0) := by
    rw [ag3_eq, hN.2.2.2, if_neg (show ¬ F_X8_has (nI N9) 0 = 0 from hs_y (x := 0) h6 (by omega)), if_neg (by decide), if_neg (by decide)]
  refine OQ.bind (c1 := 20) (s1 := 100) (c2 := 9010 + 960) (s2 := 40060 + 4800) (K := K_L_refused_217 sum (nI N9)) _ (kq_L_refused_217 sum (nI N9)) (OQ.mono (ref_district N 0 3 hag) (by omega) (by omega) (fun _ _ z => z)) (fun v N1 hP => ?_)
  obtain ⟨rfl, rfl⟩ := hP
  refine OQ.bind (c1 := 20) (s1 := 100) (c2 := 9010 + 940) (s2 := 40060 + 4700) (K := K_L_refused_220 sum (nI N9)) _ (kq_L_refused_220 sum (nI N9)) (OQ.mono (oq_range N) (by omega) (by omega) (fun _ _ z => z)) (fun v N1 hP => ?_)
  obtain ⟨rfl, rfl⟩ := hP
  rw [if_neg (by decide)]
  replace hN := RS.setK hN 1 0
  clear hag
  generalize setK N 1 0 = N at hN ⊢
  have hag : F_X8_against_ad3 N.1.1 (nS N.1) 0 (-1) = (1, 1, 0) := by
    rw [ag3_eq, hN.2.2.2, if_neg (show ¬ F_X8_has (nI N9) 0 = 0 from hs_y (x := 0) h6 (by omega)), if_pos (by decide)]
  refine OQ.bind (c1 := 20) (s1 := 100) (c2 := 9010 + 920) (s2 := 40060 + 4600) (K := K_L_refused_230 sum (nI N9)) _ (kq_L_refused_230 sum (nI N9)) (OQ.mono (ref_district N 0 (-1) hag) (by omega) (by omega) (fun _ _ z => z)) (fun v N1 hP => ?_)
  obtain ⟨rfl, rfl⟩ := hP
  refine OQ.bind (c1 := 20) (s1 := 100) (c2 := 9010 + 900) (s2 := 40060 + 4500) (K := K_L_refused_233 sum (nI N9)) _ (kq_L_refused_233 sum (nI N9)) (OQ.mono (oq_range N) (by omega) (by omega) (fun _ _ z => z)) (fun v N1 hP => ?_)
  obtain ⟨rfl, rfl⟩ := hP
  rw [if_neg (by decide)]
  replace hN := RS.setK hN 1 0
  clear hag
  generalize setK N 1 0 = N at hN ⊢
  obtain ⟨_, _, o1, o2, _, _, _⟩ := OKS.own hN.1
  refine OQ.bind (c1 := 20) (s1 := 100) (c2 := 9010 + 880) (s2 := 40060 + 4400) (K := K_L_refused_244 sum (nI N9)) _ (kq_L_refused_244 sum (nI N9)) (OQ.mono (oq_q (qv_so0 hN.2.2.2 h3 h6)) (by omega) (by omega) (fun _ _ z => z)) (fun v N1 hP => ?_)
  obtain ⟨rfl, hN1⟩ := hP
  rw [hN1]
  have hag : F_X8_against_ad3 N.1.1 (nS N.1) 0 (N.1.1 0) = (1, 5, 0) := by
    rw [ag3_eq, hN.2.2.2, if_neg (show ¬ F_X8_has (nI N9) 0 = 0 from hs_y (x := 0) h6 (by omega)), if_neg (by rw [Int32.lt_iff_toInt_lt, i0]; omega), if_pos (by rw [Int32.lt_iff_toInt_lt, show (3 : Int32).toInt = 3 from by decide]; omega), if_pos (show N.1.1 (ix 0) = N.1.1 0 from rfl)]
  refine OQ.bind (c1 := 20) (s1 := 100) (c2 := 9010 + 860) (s2 := 40060 + 4300) (K := K_L_refused_247 sum (nI N9)) _ (kq_L_refused_247 sum (nI N9)) (OQ.mono (ref_district N 0 (N.1.1 0) hag) (by omega) (by omega) (fun _ _ z => z)) (fun v N1 hP => ?_)
  obtain ⟨rfl, rfl⟩ := hP
  rw [if_pos rfl]
  refine OQ.bind (c1 := 20) (s1 := 100) (c2 := 9010 + 840) (s2 := 40060 + 4200) (K := K_L_refused_259 sum (nI N9)) _ (kq_L_refused_259 sum (nI N9)) (OQ.mono (oq_is N 5 0) (by omega) (by omega) (fun _ _ z => z)) (fun v N1 hP => ?_)
  obtain ⟨rfl, rfl⟩ := hP
  rw [if_neg (by decide)]
  replace hN := RS.setK hN 5 0
  clear hag
  generalize setK N 5 0 = N at hN ⊢
  have hag : F_X8_against_ad5 0 = (1, 1, 0) := by
    rw [ag5_eq, if_pos (by decide)]
  refine OQ.bind (c1 := 20) (s1 := 100) (c2 := 9010 + 820) (s2 := 40060 + 4100) (K := K_L_refused_268 sum (nI N9)) _ (kq_L_refused_268 sum (nI N9)) (OQ.mono (ref_pass N 0 hag) (by omega) (by omega) (fun _ _ z => z)) (fun v N1 hP => ?_)
  obtain ⟨rfl, rfl⟩ := hP
  refine OQ.bind (c1 := 20) (s1 := 100) (c2 := 9010 + 800) (s2 := 40060 + 4000) (K := K_L_refused_271 sum (nI N9)) _ (kq_L_refused_271 sum (nI N9)) (OQ.mono (oq_range N) (by omega) (by omega) (fun _ _ z => z)) (fun v N1 hP => ?_)
  obtain ⟨rfl, rfl⟩ := hP
  rw [if_neg (by decide)]
  replace hN := RS.setK hN 1 0
  clear hag
  generalize setK N 1 0 = N at hN ⊢
  have hag : F_X8_against_ad5 100 = (1, 1, 0) := by
    rw [ag5_eq, if_neg (by decide), if_pos (by decide)]
  refine OQ.bind (c1 := 20) (s1 := 100) (c2 := 9010 + 780) (s2 := 40060 + 3900) (K := K_L_refused_281 sum (nI N9)) _ (kq_L_refused_281 sum (nI N9)) (OQ.mono (ref_pass N 100 hag) (by omega) (by omega) (fun _ _ z => z)) (fun v N1 hP => ?_)
  obtain ⟨rfl, rfl⟩ := hP
  refine OQ.bind (c1 := 20) (s1 := 100) (c2 := 9010 + 760) (s2 := 40060 + 3800) (K := K_L_refused_284 sum (nI N9)) _ (kq_L_refused_284 sum (nI N9)) (OQ.mono (oq_range N) (by omega) (by omega) (fun _ _ z => z)) (fun v N1 hP => ?_)
  obtain ⟨rfl, rfl⟩ := hP
  rw [if_neg (by decide)]
  clear hag
  generalize N = X at hN ⊢
  have hY := RS.setK hN 1 0
  refine OQ.bind (c1 := 20) (s1 := 100) (c2 := 9010 + 740) (s2 := 40060 + 3700) (K := K_L_refused_306 sum (nI N9)) _ (kq_L_refused_306 sum (nI N9)) (OQ.mono (oq_q (qv_so1 hY.2.2.2 h3 h6)) (by omega) (by omega) (fun _ _ z => z)) (fun v N1 hP => ?_)
  obtain ⟨rfl, rfl⟩ := hP
  rw [if_pos rfl]
  refine OQ.bind (c1 := 20) (s1 := 100) (c2 := 9010 + 720) (s2 := 40060 + 3600) (K := K_L_refused_319 sum (nI N9)) _ (kq_L_refused_319 sum (nI N9)) (OQ.mono (oq_q (qv_so2 hY.2.2.2 h3 h6)) (by omega) (by omega) (fun _ _ z => z)) (fun v N1 hP => ?_)
  obtain ⟨rfl, rfl⟩ := hP
  rw [if_pos rfl]
  refine OQ.bind (c1 := 20) (s1 := 100) (c2 := 9010 + 700) (s2 := 40060 + 3500) (K := K_L_refused_331 sum (nI N9)) _ (kq_L_refused_331 sum (nI N9)) (OQ.mono (oq_q (qv_so3 hY.2.2.2 h3 h6)) (by omega) (by omega) (fun _ _ z => z)) (fun v N1 hP => ?_)
  obtain ⟨rfl, rfl⟩ := hP
  rw [if_pos rfl]
  refine OQ.bind (c1 := 20) (s1 := 100) (c2 := 9010 + 680) (s2 := 40060 + 3400) (K := K_L_refused_343 sum (nI N9)) _ (kq_L_refused_343 sum (nI N9)) (OQ.mono (oq_q (qv_co1 hY.2.2.2 h3 h6)) (by omega) (by omega) (fun _ _ z => z)) (fun v N1 hP => ?_)
  obtain ⟨rfl, rfl⟩ := hP
  rw [if_pos rfl]
  refine OQ.bind (c1 := 20) (s1 := 100) (c2 := 9010 + 660) (s2 := 40060 + 3300) (K := K_L_refused_355 sum (nI N9)) _ (kq_L_refused_355 sum (nI N9)) (OQ.mono (oq_q (qv_co2 hY.2.2.2 h3 h6)) (by omega) (by omega) (fun _ _ z => z)) (fun v N1 hP => ?_)
  obtain ⟨rfl, rfl⟩ := hP
  rw [if_pos rfl]
  refine OQ.bind (c1 := 20) (s1 := 100) (c2 := 9010 + 640) (s2 := 40060 + 3200) (K := K_L_refused_367 sum (nI N9)) _ (kq_L_refused_367 sum (nI N9)) (OQ.mono (oq_q (qv_co3 hY.2.2.2 h3 h6 (OKS.own hY.1).1)) (by omega) (by omega) (fun _ _ z => z)) (fun v N1 hP => ?_)
  obtain ⟨rfl, rfl⟩ := hP
  rw [if_pos rfl]
  refine OQ.bind (c1 := 20) (s1 := 100) (c2 := 9010 + 620) (s2 := 40060 + 3100) (K := K_L_refused_381 sum (nI N9)) _ (kq_L_refused_381 sum (nI N9)) (OQ.mono (oq_q (qv_pa1 hY.2.2.2 h3 h6)) (by omega) (by omega) (fun _ _ z => z)) (fun v N1 hP => ?_)
  obtain ⟨rfl, rfl⟩ := hP
  rw [if_pos rfl]
  refine OQ.bind (c1 := 20) (s1 := 100) (c2 := 9010 + 600) (s2 := 40060 + 3000) (K := K_L_refused_395 sum (nI N9)) _ (kq_L_refused_395 sum (nI N9)) (OQ.mono (oq_q (qv_pa2 hY.2.2.2 h3 h6)) (by omega) (by omega) (fun _ _ z => z)) (fun v N1 hP => ?_)
  obtain ⟨rfl, rfl⟩ := hP
  rw [if_pos rfl]
  refine OQ.bind (c1 := 20) (s1 := 100) (c2 := 9010 + 580) (s2 := 40060 + 2900) (K := K_L_refused_408 sum (nI N9)) _ (kq_L_refused_408 sum (nI N9)) (OQ.mono (oq_q (qv_pa3 hY.2.2.2 h3 h6)) (by omega) (by omega) (fun _ _ z => z)) (fun v N1 hP => ?_)
  obtain ⟨rfl, rfl⟩ := hP
  rw [if_pos rfl]
  refine OQ.bind (c1 := 20) (s1 := 100) (c2 := 9010 + 560) (s2 := 40060 + 2800) (K := K_L_refused_421 sum (nI N9)) _ (kq_L_refused_421 sum (nI N9)) (OQ.mono (oq_q (qv_pa4 hY.2.2.2 h3 h6)) (by omega) (by omega) (fun _ _ z => z)) (fun v N1 hP => ?_)
  obtain ⟨rfl, rfl⟩ := hP
  rw [if_pos rfl]
  refine OQ.bind (c1 := 20) (s1 := 100) (c2 := 9010 + 540) (s2 := 40060 + 2700) (K := K_L_refused_434 sum (nI N9)) _ (kq_L_refused_434 sum (nI N9)) (OQ.mono (oq_q (qv_to1 hY.2.2.2 h3 h6)) (by omega) (by omega) (fun _ _ z => z)) (fun v N1 hP => ?_)
  obtain ⟨rfl, rfl⟩ := hP
  rw [if_pos rfl]
  refine OQ.bind (c1 := 20) (s1 := 100) (c2 := 9010 + 520) (s2 := 40060 + 2600) (K := K_L_refused_447 sum (nI N9)) _ (kq_L_refused_447 sum (nI N9)) (OQ.mono (oq_q (qv_to2 hY.2.2.2 h3 h6)) (by omega) (by omega) (fun _ _ z => z)) (fun v N1 hP => ?_)
  obtain ⟨rfl, rfl⟩ := hP
  rw [if_pos rfl]
  refine OQ.bind (c1 := 20) (s1 := 100) (c2 := 9010 + 500) (s2 := 40060 + 2500) (K := K_L_refused_460 sum (nI N9)) _ (kq_L_refused_460 sum (nI N9)) (OQ.mono (oq_q (qv_to3 hY.2.2.2 h3 h6)) (by omega) (by omega) (fun _ _ z => z)) (fun v N1 hP => ?_)
  obtain ⟨rfl, rfl⟩ := hP
  rw [if_pos rfl]
  refine OQ.bind (c1 := 20) (s1 := 100) (c2 := 9010 + 480) (s2 := 40060 + 2400) (K := K_L_refused_473 sum (nI N9)) _ (kq_L_refused_473 sum (nI N9)) (OQ.mono (oq_q (qv_to4 hY.2.2.2 h3 h6 (OKS.own hY.1).2.1)) (by omega) (by omega) (fun _ _ z => z)) (fun v N1 hP => ?_)
  obtain ⟨rfl, rfl⟩ := hP
  rw [if_pos rfl]
  refine OQ.bind (c1 := 20) (s1 := 100) (c2 := 9010 + 460) (s2 := 40060 + 2300) (K := K_L_refused_485 sum (nI N9)) _ (kq_L_refused_485 sum (nI N9)) (OQ.mono (oq_q (qv_le1 hY.2.2.2 h3 h6)) (by omega) (by omega) (fun _ _ z => z)) (fun v N1 hP => ?_)
  obtain ⟨rfl, rfl⟩ := hP
  rw [if_pos rfl]
  refine OQ.bind (c1 := 20) (s1 := 100) (c2 := 9010 + 440) (s2 := 40060 + 2200) (K := K_L_refused_497 sum (nI N9)) _ (kq_L_refused_497 sum (nI N9)) (OQ.mono (oq_q (qv_le2 hY.2.2.2 h3 h6)) (by omega) (by omega) (fun _ _ z => z)) (fun v N1 hP => ?_)
  obtain ⟨rfl, rfl⟩ := hP
  rw [if_pos rfl]
  refine OQ.bind (c1 := 20) (s1 := 100) (c2 := 9010 + 420) (s2 := 40060 + 2100) (K := K_L_refused_509 sum (nI N9)) _ (kq_L_refused_509 sum (nI N9)) (OQ.mono (oq_q (qv_le3 hY.2.2.2 h3 h6)) (by omega) (by omega) (fun _ _ z => z)) (fun v N1 hP => ?_)
  obtain ⟨rfl, rfl⟩ := hP
  rw [if_pos rfl]
  refine OQ.bind (c1 := 20) (s1 := 100) (c2 := 9010 + 400) (s2 := 40060 + 2000) (K := K_L_refused_521 sum (nI N9)) _ (kq_L_refused_521 sum (nI N9)) (OQ.mono (oq_q (acc_3 (setK X 1 0))) (by omega) (by omega) (fun _ _ z => z)) (fun v N1 hP => ?_)
  obtain ⟨rfl, rfl⟩ := hP
  refine OQ.bind (c1 := 20) (s1 := 100) (c2 := 9010 + 380) (s2 := 40060 + 1900) (K := K_L_refused_525 sum (nI N9)) _ (kq_L_refused_525 sum (nI N9)) (OQ.mono (oq_q (qv_le4 (setK X 1 0))) (by omega) (by omega) (fun _ _ z => z)) (fun v N1 hP => ?_)
  obtain ⟨rfl, rfl⟩ := hP
  rw [if_pos rfl]
  refine OQ.bind (c1 := 20) (s1 := 100) (c2 := 9010 + 360) (s2 := 40060 + 1800) (K := K_L_refused_537 sum (nI N9)) _ (kq_L_refused_537 sum (nI N9)) (OQ.mono (oq_q (qv_di hY.2.2.2 h3 h6)) (by omega) (by omega) (fun _ _ z => z)) (fun v N1 hP => ?_)
  obtain ⟨rfl, rfl⟩ := hP
  rw [if_pos rfl]
  refine OQ.bind (c1 := 20) (s1 := 100) (c2 := 9010 + 340) (s2 := 40060 + 1700) (K := K_L_refused_549 sum (nI N9)) _ (kq_L_refused_549 sum (nI N9)) (OQ.mono (oq_q (qv_da hY.2.2.2 h3 h6)) (by omega) (by omega) (fun _ _ z => z)) (fun v N1 hP => ?_)
  obtain ⟨rfl, rfl⟩ := hP
  rw [if_pos rfl]
  refine OQ.bind (c1 := 20) (s1 := 100) (c2 := 9010 + 320) (s2 := 40060 + 1600) (K := K_L_refused_561 sum (nI N9)) _ (kq_L_refused_561 sum (nI N9)) (OQ.mono (oq_q (qv_ne1 hY.2.2.2 h3 h6)) (by omega) (by omega) (fun _ _ z => z)) (fun v N1 hP => ?_)
  obtain ⟨rfl, rfl⟩ := hP
  rw [if_pos rfl]
  obtain ⟨wa, wb, za, zb, ew⟩ := qv_ne2 hY.2.2.2 h3 h6 (OKS.own hY.1).2.2.2.2.2.1 (OKS.own hY.1).2.2.2.2.2.2
  refine OQ.bind (c1 := 20) (s1 := 100) (c2 := 9010 + 300) (s2 := 40060 + 1500) (K := K_L_refused_573 sum (nI N9)) _ (kq_L_refused_573 sum (nI N9)) (OQ.mono (OQ.eq (P := fun v N => v = -1002 ∧ N = setW (setK X 1 0) wa wb) ew ⟨rfl, rfl⟩ (Nat.le_refl _) (Nat.le_refl _) (setW_phs _ _ _).1 (setW_phs _ _ _).2) (by omega) (by omega) (fun _ _ z => z)) (fun v N1 hP => ?_)
  obtain ⟨rfl, rfl⟩ := hP
  rw [if_pos rfl, setW_K]
  replace hN := RS.setW hN za zb
  clear hY ew
  generalize setW X wa wb = X at hN ⊢
  have hY := RS.setK hN 1 0
  refine OQ.bind (c1 := 20) (s1 := 100) (c2 := 9010 + 280) (s2 := 40060 + 1400) (K := K_L_refused_584 sum (nI N9)) _ (kq_L_refused_584 sum (nI N9)) (OQ.mono (oq_q (qv_re hY.2.2.2 h3 h6)) (by omega) (by omega) (fun _ _ z => z)) (fun v N1 hP => ?_)
  obtain ⟨rfl, rfl⟩ := hP
  rw [if_pos rfl]
  refine OQ.bind (c1 := 20) (s1 := 100) (c2 := 9010 + 260) (s2 := 40060 + 1300) (K := K_L_refused_596 sum (nI N9)) _ (kq_L_refused_596 sum (nI N9)) (OQ.mono (oq_q (qv_fo hY.2.2.2 h3 h6)) (by omega) (by omega) (fun _ _ z => z)) (fun v N1 hP => ?_)
  obtain ⟨rfl, rfl⟩ := hP
  rw [if_pos rfl]
  refine OQ.bind (c1 := 20) (s1 := 100) (c2 := 9010 + 240) (s2 := 40060 + 1200) (K := K_L_refused_608 sum (nI N9)) _ (kq_L_refused_608 sum (nI N9)) (OQ.mono (oq_q (qv_rl hY.2.2.2 h3 h6)) (by omega) (by omega) (fun _ _ z => z)) (fun v N1 hP => ?_)
  obtain ⟨rfl, rfl⟩ := hP
  rw [if_pos rfl]
  refine OQ.bind (c1 := 20) (s1 := 100) (c2 := 9010 + 220) (s2 := 40060 + 1100) (K := K_L_refused_619 sum (nI N9)) _ (kq_L_refused_619 sum (nI N9)) (OQ.mono (oq_q (qv_ri hY.2.2.2 h3 h6)) (by omega) (by omega) (fun _ _ z => z)) (fun v N1 hP => ?_)
  obtain ⟨rfl, rfl⟩ := hP
  rw [if_pos rfl]
  refine OQ.bind (c1 := 20) (s1 := 100) (c2 := 9010 + 200) (s2 := 40060 + 1000) (K := K_L_refused_630 sum (nI N9)) _ (kq_L_refused_630 sum (nI N9)) (OQ.mono (oq_q (qv_ag hY.2.2.2 h3 h6)) (by omega) (by omega) (fun _ _ z => z)) (fun v N1 hP => ?_)
  obtain ⟨rfl, rfl⟩ := hP
  rw [if_pos rfl]
  refine OQ.bind (c1 := 20) (s1 := 100) (c2 := 9010 + 180) (s2 := 40060 + 900) (K := K_L_refused_641 sum (nI N9)) _ (kq_L_refused_641 sum (nI N9)) (OQ.mono (oq_q (qv_aa hY.2.2.2 h3 h6)) (by omega) (by omega) (fun _ _ z => z)) (fun v N1 hP => ?_)
  obtain ⟨rfl, rfl⟩ := hP
  rw [if_pos rfl]
  refine OQ.bind (c1 := 20) (s1 := 100) (c2 := 9010 + 160) (s2 := 40060 + 800) (K := K_L_refused_652 sum (nI N9)) _ (kq_L_refused_652 sum (nI N9)) (OQ.mono (oq_q (qv_me hY.2.2.2 h3 h6)) (by omega) (by omega) (fun _ _ z => z)) (fun v N1 hP => ?_)
  obtain ⟨rfl, rfl⟩ := hP
  rw [if_pos rfl]
  refine OQ.bind (c1 := 20) (s1 := 100) (c2 := 9010 + 140) (s2 := 40060 + 700) (K := K_L_refused_663 sum (nI N9)) _ (kq_L_refused_663 sum (nI N9)) (OQ.mono (oq_q (qv_bu1 hY.2.2.2 h3 h6)) (by omega) (by omega) (fun _ _ z => z)) (fun v N1 hP => ?_)
  obtain ⟨rfl, rfl⟩ := hP
  rw [if_pos rfl]
  refine OQ.bind (c1 := 20) (s1 := 100) (c2 := 9010 + 120) (s2 := 40060 + 600) (K := K_L_refused_674 sum (nI N9)) _ (kq_L_refused_674 sum (nI N9)) (OQ.mono (oq_q (qv_bu2 hY.2.2.2 h3 h6)) (by omega) (by omega) (fun _ _ z => z)) (fun v N1 hP => ?_)
  obtain ⟨rfl, rfl⟩ := hP
  rw [if_pos rfl]
  refine OQ.bind (c1 := 20) (s1 := 100) (c2 := 9010 + 100) (s2 := 40060 + 500) (K := K_L_refused_685 sum) _ (kq_L_refused_685 sum) (OQ.mono (oq_q (qv_li hY.2.2.2 h3 h6)) (by omega) (by omega) (fun _ _ z => z)) (fun v N1 hP => ?_)
  obtain ⟨rfl, rfl⟩ := hP
  rw [if_pos rfl]
  refine OQ.bind (c1 := 20) (s1 := 100) (c2 := 9010 + 80) (s2 := 40060 + 400) (K := K_L_refused_696 sum) _ (kq_L_refused_696 sum) (OQ.mono (oq_q (qv_ch1 hY.2.2.2 h3 h6)) (by omega) (by omega) (fun _ _ z => z)) (fun v N1 hP => ?_)
  obtain ⟨rfl, rfl⟩ := hP
  rw [if_pos rfl]
  refine OQ.bind (c1 := 20) (s1 := 100) (c2 := 9010 + 60) (s2 := 40060 + 300) (K := K_L_refused_709 sum) _ (kq_L_refused_709 sum) (OQ.mono (oq_q (qv_ch2 hY.2.2.2 h3 h6 (OKS.own hY.1).2.2.2.2.1)) (by omega) (by omega) (fun _ _ z => z)) (fun v N1 hP => ?_)
  obtain ⟨rfl, rfl⟩ := hP
  rw [if_pos rfl]
  refine OQ.bind (c1 := 20) (s1 := 100) (c2 := 9010 + 40) (s2 := 40060 + 200) (K := K_L_refused_721 sum) _ (kq_L_refused_721 sum) (OQ.mono (oq_q (qv_ac1 hY.2.2.2 h3 h6)) (by omega) (by omega) (fun _ _ z => z)) (fun v N1 hP => ?_)
  obtain ⟨rfl, rfl⟩ := hP
  rw [if_pos rfl]
  refine OQ.bind (c1 := 20) (s1 := 100) (c2 := 9010 + 20) (s2 := 40060 + 100) (K := K_L_refused_732 sum) _ (kq_L_refused_732 sum) (OQ.mono (oq_q (qv_ac2 hY.2.2.2 h3 h6)) (by omega) (by omega) (fun _ _ z => z)) (fun v N1 hP => ?_)
  obtain ⟨rfl, rfl⟩ := hP
  rw [if_pos rfl]
  refine OQ.bind (c1 := 20) (s1 := 100) (c2 := 9010 + 0) (s2 := 40060 + 0) (K := K_L_refused_744 sum) _ (kq_L_refused_744 sum) (OQ.mono (oq_is X 1 0) (by omega) (by omega) (fun _ _ z => z)) (fun v N1 hP => ?_)
  obtain ⟨rfl, rfl⟩ := hP
  rw [if_neg (by decide)]
  refine OQ.bind (c1 := 10) (s1 := 60) (c2 := 9000) (s2 := 40000) (K := K_L_refused_766 sum) _ (kq_L_refused_766 sum) (oq_reads5 hY.1) (fun v N1 hP => ?_)
  obtain ⟨rfl, f1, o1, e1, a1⟩ := hP
  rw [if_pos rfl]
  unfold K_L_refused_776
  rw [if_pos f1]
  refine OQ.mono (c := 4580 + 4 + 80 + 4 + 80) (s := 27480 + 24 + 500 + 24 + 500) ?_ (by omega) (by omega) (fun _ _ z => z)
  refine OQ.bind (c1 := 80) (s1 := 500) (c2 := 4580 + 4 + 80 + 4) (s2 := 27480 + 24 + 500 + 24) (K := K_L_refused_786 sum) _ (kq_L_refused_786 sum) (oq_reads_6 o1 (by omega) (by omega) (by omega) (by omega)) (fun v N2 hP => ?_)
  obtain ⟨rfl, ⟨Q2, a2⟩, ⟨X2, rfl⟩, f2, o2, e2⟩ := hP
  rw [if_pos rfl]
  refine OQ.bind (c1 := 4) (s1 := 24) (c2 := 4580 + 4 + 80) (s2 := 27480 + 24 + 500) (K := K_L_refused_799 sum) _ (kq_L_refused_799 sum) (oq_eight X2 (nI 2) 1 0) (fun v N2 hP => ?_)
  obtain ⟨rfl, rfl⟩ := hP
  rw [if_neg (by decide)]
  unfold K_L_refused_806
  rw [if_pos f2]
  refine OQ.bind (c1 := 80) (s1 := 500) (c2 := 4580 + 4) (s2 := 27480 + 24) (K := K_L_refused_817 sum) _ (kq_L_refused_817 sum) (oq_reads_7 o2 (by omega) (by omega) (by omega) (by omega) (by rw [e2, e1, hY.2.2.2, nI_toInt (by omega)]; omega)) (fun v N3 hP => ?_)
  obtain ⟨rfl, ⟨Q3, a3⟩, ⟨X3, rfl⟩, f3, o3, e3⟩ := hP
  rw [if_pos rfl]
  refine OQ.bind (c1 := 4) (s1 := 24) (c2 := 4580) (s2 := 27480) (K := K_L_refused_831 sum) _ (kq_L_refused_831 sum) (oq_eight X3 (nI 1) 3 9) (fun v N3 hP => ?_)
  obtain ⟨rfl, rfl⟩ := hP
  rw [if_neg (by decide)]
  obtain ⟨Q0, a0⟩ := hY.2.2.1
  have ea : arch (setK2 X3 8 (nI 1) 3 9) = P0 ++ (Q0 ++ Q2 ++ Q3) := by rw [a3, a2, a1, a0]; simp only [List.append_assoc]
  refine OQ.bind (c1 := 4580) (s1 := 27480) (c2 := 0) (s2 := 0) (K := K_L_refused_838 sum) _ (kq_L_refused_838 sum) (oq_same o3 (by omega) (by omega) (by omega) (by omega) hA (by rw [e3, e2, e1, hY.2.1]; exact EQN.rfl') ⟨_, ea⟩) (fun v N4 hP => ?_)
  obtain ⟨rfl, o4, ⟨Q4, a4⟩, e4⟩ := hP
  rw [if_pos (lgc _)]
  exact OQ.ret ⟨rfl, o4, ⟨Q0 ++ Q2 ++ Q3 ++ Q4, by rw [a4, ea]; simp only [List.append_assoc]⟩, by rw [e4, e3, e2, e1, hY.2.1]⟩
theorem oq_refused {r d T Bd : Nat} {stk : List SV} {sv : Option SV} {M : MS} (h : OKS 32 r d T Bd stk sv M) {N9 : Nat} (hn : nS M.1 = nI N9) (h3 : 3 ≤ N9) (h6 : N9 ≤ 6) (hr : r + 3 ≤ 32) (hd : d ≤ 90000) (hT : T + 400 < 500000) (hB : Bd ≤ 840000) : OQ (9010 + 1400 + 4580) (40060 + 7000 + 27480) M (F_L_refused M) (fun v N' => v = 1 ∧ OKS 32 r d T (Bd + 600 + 162 + 162 + 600) stk sv N' ∧ (∃ Q, arch N' = arch M ++ Q) ∧ N'.1 = M.1) := by
  unfold F_L_refused
  refine OQ.bind (c1 := 4580) (s1 := 27480) (c2 := 9010 + 1400) (s2 := 40060 + 7000) (K := K_L_refused_1) _ kq_L_refused_1 (oq_asks h (by omega) (by omega) (by omega) (by omega)) (fun v N hP => ?_)
  obtain ⟨h1, hQ, e1, hv⟩ := hP
  exact ref_main ⟨h1, e1, hQ, by rw [e1, hn]⟩ hv h3 h6 hr hd hT (by omega)
