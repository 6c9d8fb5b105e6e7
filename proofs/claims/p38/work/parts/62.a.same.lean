/-! asks AGAIN -/
theorem lgc (x : Int64) : lg_cmp x x = 0 := by
  unfold lg_cmp
  first | (simp; done) | (rw [if_neg (Int64.lt_irrefl x)]; simp)
theorem oq_same {r d T Bd : Nat} {stk : List SV} {sv : Option SV} {M : MS} (h : OKS 32 r d T Bd stk sv M) (hB : Bd + 600 ≤ 900000) (hr : r ≤ 32) (hd : d ≤ 100000) (hT : T < 500000) {S : SV} {P : List PG} {w : Int64} (hA : AN S P w) (hE : EQN S M.1) (hQ : ∃ Q, arch M = P ++ Q) : OQ 4580 27480 M (F_L_asks M) (fun v N => v = w ∧ OKS 32 r d T (Bd + 600) stk sv N ∧ (∃ Q, arch N = arch M ++ Q) ∧ N.1 = M.1) := by
  obtain ⟨x1, x2, x3⟩ := OKS.xl h
  have hx := hA M Bd (by omega) hE hQ x2 x3 x1
  have ho := oq_asks h hB hr hd hT
  generalize F_L_asks M = y at hx ho ⊢
  obtain ⟨⟨k1, k2, k3, k4⟩, k5, k6⟩ := ho
  exact ⟨⟨hx, k1, k2, k3⟩, k5, k6⟩
theorem OQ.ad2 {α : Type} {c s c1 s1 a b : Nat} {M N : MS} {r : α × MS × Nat × Nat} {P : α → MS → Prop} (h : OQ c s N r P) (h1 : b + PHS M ≤ s1 + PHS N) (h2 : 320 * a + PHK M ≤ 320 * c1 + PHK N) : OQ (c + c1) (s + s1) M (adc a b r) P := by
  obtain ⟨k1, k2, k3⟩ := h
  refine ⟨k1, ?_, ?_⟩
  · show b + r.2.2.2 + PHS M ≤ s + s1 + PHS r.2.1
    omega
  · show 320 * (a + r.2.2.1) + PHK M ≤ 320 * (c + c1) + PHK r.2.1
    omega
theorem qI_sub {a b : Nat} (h : b ≤ a) (ha : a < 2 ^ 31) : nI a - nI b = nI (a - b) := qI_eq (by omega) (by rw [subI (by rw [nI_toInt ha, nI_toInt (by omega)]; omega) (by rw [nI_toInt ha, nI_toInt (by omega)]; omega), nI_toInt ha, nI_toInt (by omega)]; omega)
theorem in8k {n : Nat} (hn : n ≤ 10) : inI 8 (nI n) = nI (min 8 n) := by
  have key : ∀ i : Fin 11, inI 8 (nI i.val) = nI (min 8 i.val) := by decide +kernel
  exact key ⟨n, by omega⟩
