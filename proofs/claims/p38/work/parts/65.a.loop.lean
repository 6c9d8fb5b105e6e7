/-! TEN CHANGES, AND BACK -/
theorem sk_push {dn : Nat} {qs : Nat → Int64} {P : List PG} {stk : List SV} {S : SV} {v : Int64} (h : SK dn 0 qs P stk) (hA : AN S P v) : SK (dn + 1) 0 (vp_updL qs dn v) P (S :: stk.take 7) := by
  obtain ⟨h1, h2, h3⟩ := h
  refine ⟨by rw [List.length_cons, List.length_take]; omega, by rw [List.length_cons, List.length_take]; omega, fun i U hi hU => ?_⟩
  cases i with
  | zero =>
    rw [List.getElem?_cons_zero] at hU
    have hU := Option.some.inj hU
    subst hU
    rw [show dn + 1 - 1 - 0 - 0 = dn by omega]
    rw [show vp_updL qs dn v dn = v from if_pos rfl]
    exact hA
  | succ i =>
    rw [List.getElem?_cons_succ, List.getElem?_take_of_lt (by omega)] at hU
    have z := h3 i U (by omega) hU
    rw [show dn + 1 - 1 - 0 - (i + 1) = dn - 1 - 0 - i by omega]
    rw [show vp_updL qs dn v (dn - 1 - 0 - i) = qs (dn - 1 - 0 - i) from if_neg (by omega)]
    exact z
theorem sk_app {dn : Nat} {qs : Nat → Int64} {P : List PG} {stk : List SV} (h : SK dn 0 qs P stk) (Q : List PG) : SK dn 0 qs (P ++ Q) stk := ⟨h.1, h.2.1, fun i U hi hU => AN.app (h.2.2 i U hi hU) Q⟩
set_option maxRecDepth 100000 in
theorem chg_loop (len1 : Nat) (xs1 : Nat → Int32) {S : SV} {sum : Int64} {y : Int32 × (Nat → Int32) × (Nat → Int32) × (Nat → Int32) × Nat × (Nat → Int32) × Int32 × Int32 × Int32 × Int32 × Int32 × Int32 × Int32 × Int32 × Nat × Nat} (hy : y.1 = nS S) : ∀ (m i dn : Nat) (qs : Nat → Int64) (Bd : Nat) (stk : List SV) (N : MS), i + m = 10 → dn ≤ i → OKS 32 (12 + 2 * i) (28 + 6 * i) (107 + 200 * i) Bd stk (some S) N → AN S (arch N) sum → SK dn 0 qs (arch N) stk → Bd + 600 * dn + 1900 * m ≤ 700000 →
    OQ (9180 + 4590 * dn + 9300 * m) (55080 + 27510 * dn + 55800 * m) N (L_L_law_502 len1 xs1 sum y (m + 1) (nI dn) (nI i) qs N) (fun v N' => v = 1 ∧ ∃ stk' r' d' T', OKS 32 r' d' T' (Bd + 600 * dn + 1900 * m + 1200) stk' (some S) N') := by
  intro m
  induction m with
  | zero =>
    intro i dn qs Bd stk N hi hdn h hA hS hB
    have ei : i = 10 := by omega
    subst ei
    rw [show L_L_law_502 len1 xs1 sum y (0 + 1) (nI dn) (nI 10) qs N = B_L_law_502 len1 xs1 sum y (L_L_law_502 len1 xs1 sum y 0) (nI dn) (nI 10) qs N from rfl]
    unfold B_L_law_502
    rw [if_pos (by decide), in8k hdn, show ((nI (min 8 dn) : Int32).toInt + 1 - (1 : Int32).toInt).toNat + 1 = min 8 dn + 1 from by rw [nI_toInt (by omega), i1]; omega]
    refine OQ.mono (undo_loop hdn hy (by omega) (by omega) (by omega) (min 8 dn) 0 Bd stk N (by omega) h hA hS (by omega)) (by omega) (by omega) (fun v N' hP => ?_)
    obtain ⟨p1, stk', r', d', T', p2⟩ := hP
    exact ⟨p1, stk', r', d', T', OKS.mono p2 (Nat.le_refl _) (Nat.le_refl _) (Nat.le_refl _) (by omega) (by omega)⟩
  | succ m ih =>
    intro i dn qs Bd stk N hi hdn h hA hS hB
    rw [show L_L_law_502 len1 xs1 sum y (m + 1 + 1) (nI dn) (nI i) qs N = B_L_law_502 len1 xs1 sum y (L_L_law_502 len1 xs1 sum y (m + 1)) (nI dn) (nI i) qs N from rfl]
    unfold B_L_law_502
    rw [if_neg (show ¬ (10 : Int32) ≤ nI i by rw [show (10 : Int32) = nI 10 from rfl, qI_le (by omega) (by omega)]; omega)]
    refine OQ.mono (c := 9180 + 4590 * dn + 9300 * m + 4590 + 130 + 4580) (s := 55080 + 27510 * dn + 55800 * m + 27510 + 800 + 27480) ?_ (by omega) (by omega) (fun _ _ z => z)
    refine OQ.bind (c1 := 4580) (s1 := 27480) (c2 := 9180 + 4590 * dn + 9300 * m + 4590 + 130) (s2 := 55080 + 27510 * dn + 55800 * m + 27510 + 800) (K := K_L_law_510 len1 xs1 (nI dn) (nI i) qs (L_L_law_502 len1 xs1 sum y (m + 1))) _ (kq_L_law_510 len1 xs1 (nI dn) (nI i) qs (L_L_law_502 len1 xs1 sum y (m + 1))) (oq_asks h (by omega) (by omega) (by omega) (by omega)) (fun v N1 hP => ?_)
    obtain ⟨h1, ⟨Q1, a1⟩, e1, hv⟩ := hP
    refine OQ.bind (c1 := 130) (s1 := 800) (c2 := 9180 + 4590 * dn + 9300 * m + 4590) (s2 := 55080 + 27510 * dn + 55800 * m + 27510) (K := K_L_law_532 (nI dn) (nI i) qs (L_L_law_502 len1 xs1 sum y (m + 1)) v) _ (kq_L_law_532 (nI dn) (nI i) qs (L_L_law_502 len1 xs1 sum y (m + 1)) v) (oq_changes h1 (by omega) (by omega) (by omega) (by omega) _) (fun w N2 hP => ?_)
    obtain ⟨⟨Q2, a2⟩, ⟨hw, h2, e2⟩ | ⟨hw, h2⟩⟩ := hP
    · rw [if_pos hw]
      have hv2 : AN N2.1 (arch N ++ Q1 ++ Q2) v := by rw [e2, e1]; exact (hv.app Q1).app Q2
      have ea : arch N2 = arch N ++ Q1 ++ Q2 := by rw [a2, a1]
      refine OQ.mono (c := 9180 + 4590 * dn + 9300 * m + 4580) (s := 55080 + 27510 * dn + 55800 * m + 27480) ?_ (by omega) (by omega) (fun _ _ z => z)
      refine OQ.bind (c1 := 4580) (s1 := 27480) (c2 := 9180 + 4590 * dn + 9300 * m) (s2 := 55080 + 27510 * dn + 55800 * m) (K := K_L_law_552 (nI dn) (nI i) qs (L_L_law_502 len1 xs1 sum y (m + 1)) v) _ (kq_L_law_552 (nI dn) (nI i) qs (L_L_law_502 len1 xs1 sum y (m + 1)) v) (oq_same h2 (by omega) (by omega) (by omega) (by omega) hv2 EQN.rfl' ⟨[], by rw [ea, List.append_nil]⟩) (fun u N3 hP => ?_)
      obtain ⟨rfl, h3, ⟨Q3, a3⟩, e3⟩ := hP
      rw [if_pos (lgc _), qI_succ (by omega)]
      have eb : arch N3 = arch N ++ (Q1 ++ Q2 ++ Q3) := by rw [a3, ea]; simp only [List.append_assoc]
      refine OQ.mono (ih (i + 1) dn qs (Bd + 600 + 700 + 600) stk N3 (by omega) (by omega) (OKS.mono h3 (by omega) (by omega) (by omega) (by omega) (by omega)) (by rw [eb]; exact hA.app _) (by rw [eb]; exact sk_app hS _) (by omega)) (Nat.le_refl _) (Nat.le_refl _) (fun v N' hP => ?_)
      obtain ⟨p1, stk', r', d', T', p2⟩ := hP
      exact ⟨p1, stk', r', d', T', OKS.mono p2 (Nat.le_refl _) (Nat.le_refl _) (Nat.le_refl _) (by omega) (by omega)⟩
    · rw [if_neg (by rw [hw]; decide), qI_succ (by omega), qI_succ (by omega), qI_ix (by omega)]
      have eb : arch N2 = arch N ++ (Q1 ++ Q2) := by rw [a2, a1, List.append_assoc]
      have hv1 : AN N1.1 (arch N) v := by rw [e1]; exact hv
      refine OQ.mono (ih (i + 1) (dn + 1) (vp_updL qs dn v) (Bd + 600 + 700) (N1.1 :: stk.take 7) N2 (by omega) (by omega) (OKS.mono h2 (by omega) (by omega) (by omega) (by omega) (by omega)) (by rw [eb]; exact hA.app _) (by rw [eb]; exact sk_app (sk_push hS hv1) _) (by omega)) (by omega) (by omega) (fun v N' hP => ?_)
      obtain ⟨p1, stk', r', d', T', p2⟩ := hP
      exact ⟨p1, stk', r', d', T', OKS.mono p2 (Nat.le_refl _) (Nat.le_refl _) (Nat.le_refl _) (by omega) (by omega)⟩
