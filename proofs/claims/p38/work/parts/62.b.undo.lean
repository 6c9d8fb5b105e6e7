/-! UNDO GIVES BACK THE FORMER ANSWERS; WHAT WAS SAVED COMES BACK -/
/-- the last: restore, and again -/
theorem end_restore {r d T Bd : Nat} {stk : List SV} {S : SV} {N : MS} {sum : Int64} {y : Int32 × (Nat → Int32) × (Nat → Int32) × (Nat → Int32) × Nat × (Nat → Int32) × Int32 × Int32 × Int32 × Int32 × Int32 × Int32 × Int32 × Int32 × Nat × Nat} (h : OKS 32 r d T Bd stk (some S) N) (hA : AN S (arch N) sum) (hy : y.1 = nS S) (hB : Bd ≤ 800000) (hr : r ≤ 32) (hd : d ≤ 100000) (hT : T < 500000) :
    OQ 9180 55080 N (K_L_law_639 sum y (F_L_restore N)) (fun v N' => v = 1 ∧ ∃ stk' r' d' T', OKS 32 r' d' T' (Bd + 1200) stk' (some S) N') := by
  refine OQ.mono (c := 0 + 4580 + 4 + 4580 + 4 + 4) (s := 0 + 27480 + 24 + 27480 + 24 + 24) ?_ (by omega) (by omega) (fun _ _ z => z)
  refine OQ.bind (K := K_L_law_639 sum y) _ (kq_L_law_639 sum y) (oq_restore h hr (by omega) hd hT) (fun v N1 hP => ?_)
  obtain ⟨h1, a1, v1, e1⟩ := hP
  rw [if_pos (by rw [v1, hy])]
  refine OQ.bind (K := K_L_law_648 sum y) _ (kq_L_law_648 sum y) (oq_undo0 h1) (fun v N2 hP => ?_)
  obtain ⟨rfl, rfl⟩ := hP
  rw [if_pos rfl]
  refine OQ.bind (K := K_L_law_658 sum y) _ (kq_L_law_658 sum y) (oq_same h1 (by omega) hr hd hT hA e1 ⟨[], by rw [a1, List.append_nil]⟩) (fun v N3 hP => ?_)
  obtain ⟨rfl, h3, ⟨Q3, a3⟩, e3⟩ := hP
  rw [if_pos (lgc _)]
  refine OQ.bind (K := K_L_law_668 v y) _ (kq_L_law_668 v y) (oq_restore h3 hr (by omega) hd hT) (fun w N4 hP => ?_)
  obtain ⟨h4, a4, v4, e4⟩ := hP
  rw [if_pos (by rw [v4, hy])]
  refine OQ.bind (K := K_L_law_677 v) _ (kq_L_law_677 v) (oq_same h4 (by omega) hr hd hT hA e4 ⟨Q3, by rw [a4, a3, a1]⟩) (fun w N5 hP => ?_)
  obtain ⟨rfl, h5, _, _⟩ := hP
  rw [if_pos (lgc _)]
  exact OQ.ret ⟨rfl, _, _, _, _, h5⟩
/-- the stack of what can be undone knows the former answers, from the k-th on -/
def SK (dn k : Nat) (qs : Nat → Int64) (P : List PG) (stk : List SV) : Prop := min 8 dn ≤ stk.length + k ∧ stk.length + k ≤ 8 ∧ ∀ i U, i + k < min 8 dn → stk[i]? = some U → AN U P (qs (dn - 1 - k - i))
set_option maxRecDepth 100000 in
theorem undo_loop {dn : Nat} (hdn : dn ≤ 10) {qs : Nat → Int64} {S : SV} {sum : Int64} {y : Int32 × (Nat → Int32) × (Nat → Int32) × (Nat → Int32) × Nat × (Nat → Int32) × Int32 × Int32 × Int32 × Int32 × Int32 × Int32 × Int32 × Int32 × Nat × Nat} (hy : y.1 = nS S) {r d T : Nat} (hr : r ≤ 32) (hd : d ≤ 100000) (hT : T < 500000) : ∀ (m k : Nat) (Bd : Nat) (stk : List SV) (N : MS), k + m = min 8 dn → OKS 32 r d T Bd stk (some S) N → AN S (arch N) sum → SK dn k qs (arch N) stk → Bd + 600 * m ≤ 800000 →
    OQ (9180 + 4590 * m) (55080 + 27510 * m) N (L_L_law_581 sum y (nI dn) qs (m + 1) (nI (k + 1)) N) (fun v N' => v = 1 ∧ ∃ stk' r' d' T', OKS 32 r' d' T' (Bd + 600 * m + 1200) stk' (some S) N') := by
  intro m
  induction m with
  | zero =>
    intro k Bd stk N hk h hA hS hB
    rw [show L_L_law_581 sum y (nI dn) qs (0 + 1) (nI (k + 1)) N = B_L_law_581 sum y (nI dn) qs (L_L_law_581 sum y (nI dn) qs 0) (nI (k + 1)) N from rfl]
    unfold B_L_law_581
    rw [in8k hdn, if_pos (by rw [qI_lt (by omega) (by omega)]; omega)]
    exact end_restore h hA hy (by omega) hr hd hT
  | succ m ih =>
    intro k Bd stk N hk h hA hS hB
    rw [show L_L_law_581 sum y (nI dn) qs (m + 1 + 1) (nI (k + 1)) N = B_L_law_581 sum y (nI dn) qs (L_L_law_581 sum y (nI dn) qs (m + 1)) (nI (k + 1)) N from rfl]
    unfold B_L_law_581
    rw [in8k hdn, if_neg (by rw [qI_lt (by omega) (by omega)]; omega)]
    obtain ⟨s1, s2, s3⟩ := hS
    cases stk with
    | nil => rw [List.length_nil] at s1; omega
    | cons U tl =>
      rw [List.length_cons] at s1 s2
      refine OQ.mono (c := 9180 + 4590 * m + 4580 + 4) (s := 55080 + 27510 * m + 27480 + 24) ?_ (by omega) (by omega) (fun _ _ z => z)
      refine OQ.bind (c1 := 4) (s1 := 24) (c2 := 9180 + 4590 * m + 4580) (s2 := 55080 + 27510 * m + 27480) (K := K_L_law_589 (nI dn) qs (nI (k + 1)) (L_L_law_581 sum y (nI dn) qs (m + 1))) _ (kq_L_law_589 (nI dn) qs (nI (k + 1)) (L_L_law_581 sum y (nI dn) qs (m + 1))) (oq_undo h hr (by omega) hd hT) (fun v N1 hP => ?_)
      obtain ⟨h1, a1, v1, e1⟩ := hP
      rw [v1, in8k hdn, qI_sub (by omega) (by omega), if_neg (by rw [qI_lt (by omega) (by omega)]; omega), show (8 : Int32) = nI 8 from rfl, qI_sub (by omega) (by omega), if_neg (by rw [qI_lt (by omega) (by omega)]; omega)]
      have hAU := s3 0 U (by omega) rfl
      refine OQ.bind (c1 := 4580) (s1 := 27480) (c2 := 9180 + 4590 * m) (s2 := 55080 + 27510 * m) (K := K_L_law_615 (nI dn) qs (nI (k + 1)) (L_L_law_581 sum y (nI dn) qs (m + 1))) _ (kq_L_law_615 (nI dn) qs (nI (k + 1)) (L_L_law_581 sum y (nI dn) qs (m + 1))) (oq_same h1 (by omega) hr hd hT hAU e1 ⟨[], by rw [a1, List.append_nil]⟩) (fun v N2 hP => ?_)
      obtain ⟨v2, h2, ⟨Q, a2⟩, e2⟩ := hP
      rw [qI_sub (by omega) (by omega), qI_ix (by omega), v2, show dn - (k + 1) = dn - 1 - k - 0 by omega, if_pos (lgc _), qI_succ (by omega)]
      have ea : arch N2 = arch N ++ Q := by rw [a2, a1]
      refine OQ.mono (ih (k + 1) (Bd + 600) tl N2 (by omega) h2 (by rw [ea]; exact hA.app Q) ⟨by omega, by omega, fun i W hi hw => ?_⟩ (by omega)) (Nat.le_refl _) (Nat.le_refl _) (fun v N' z => ?_)
      · rw [ea, show dn - 1 - (k + 1) - i = dn - 1 - k - (i + 1) by omega]
        exact AN.app (s3 (i + 1) W (by omega) hw) Q
      · obtain ⟨z1, z2⟩ := z
        rw [show Bd + 600 + 600 * m + 1200 = Bd + 600 * (m + 1) + 1200 by omega] at z2
        exact ⟨z1, z2⟩
