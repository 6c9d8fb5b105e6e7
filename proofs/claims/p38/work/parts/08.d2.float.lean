/-! QUOTIENTS of converted numbers: none is a NaN -/
theorem t64 : FP.Core.b64.tails = 4503599627370496 := by decide +kernel
theorem e64 : FP.Core.b64.exps = 2048 := by decide +kernel
theorem qn64 : FP.Core.b64.qmin = -1074 := by decide +kernel
theorem qx64 : FP.Core.b64.qmax = 971 := by decide +kernel
theorem pp64 : 2 ^ FP.Core.b64.p = 9007199254740992 := by decide +kernel
def ok64 : FP.Core.Datum → Prop
  | .nan => False
  | .inf _ => True
  | .fin _ c q => c < 9007199254740992 ∧ q ≤ 971
theorem ei64 (s : Bool) : FP.Core.encode FP.Core.b64 (.inf s) = (s.toNat * 2048 + (2048 - 1)) * 4503599627370496 + 0 := by
  show FP.Core.assemble FP.Core.b64 s (FP.Core.b64.exps - 1) 0 = _
  unfold FP.Core.assemble
  rw [t64, e64]
theorem ef64 (s : Bool) (c : Nat) (q : Int) : FP.Core.encode FP.Core.b64 (.fin s c q) = if c < 4503599627370496 then (s.toNat * 2048 + 0) * 4503599627370496 + c else (s.toNat * 2048 + ((q - (-1074)).toNat + 1)) * 4503599627370496 + (c - 4503599627370496) := by
  show (if c < FP.Core.b64.tails then FP.Core.assemble FP.Core.b64 s 0 c else FP.Core.assemble FP.Core.b64 s ((q - FP.Core.b64.qmin).toNat + 1) (c - FP.Core.b64.tails)) = _
  unfold FP.Core.assemble
  rw [t64, e64, qn64]
theorem enc64 (d : FP.Core.Datum) (h : ok64 d) : FP.Core.encode FP.Core.b64 d % 9223372036854775808 ≤ 9218868437227405312 ∧ FP.Core.encode FP.Core.b64 d < 18446744073709551616 := by
  cases d with
  | nan => exact h.elim
  | inf s =>
    rw [ei64]
    have hs : s.toNat ≤ 1 := by cases s <;> decide
    omega
  | fin s c q =>
    obtain ⟨h1, h2⟩ : c < 9007199254740992 ∧ q ≤ 971 := h
    rw [ef64]
    have hs : s.toNat ≤ 1 := by cases s <;> decide
    split <;> omega
theorem dec64 (s : Bool) (c : Nat) (q : Int) (h1 : c < 9007199254740992) (h2 : q ≤ 971) : ∃ s' c' q', FP.Core.decode FP.Core.b64 (FP.Core.encode FP.Core.b64 (.fin s c q)) = .fin s' c' q' ∧ (c ≠ 0 → c' ≠ 0) := by
  have hs : s.toNat ≤ 1 := by cases s <;> decide
  rw [ef64]
  unfold FP.Core.decode FP.Core.fieldE FP.Core.fieldT
  rw [t64, e64, qn64]
  by_cases hc : c < 4503599627370496
  · rw [if_pos hc]
    have e1 : ((s.toNat * 2048 + 0) * 4503599627370496 + c) / 4503599627370496 % 2048 = 0 := by omega
    have e2 : ((s.toNat * 2048 + 0) * 4503599627370496 + c) % 4503599627370496 = c := by omega
    rw [e1, e2, if_neg (by decide), if_pos rfl]
    exact ⟨_, _, _, rfl, fun h => h⟩
  · rw [if_neg hc]
    generalize hk : (q - (-1074)).toNat + 1 = k
    have k1 : 0 < k := by omega
    have k2 : k < 2047 := by omega
    have e1 : ((s.toNat * 2048 + k) * 4503599627370496 + (c - 4503599627370496)) / 4503599627370496 % 2048 = k := by omega
    rw [e1, if_neg (show ¬ k = 2048 - 1 by omega), if_neg (show ¬ k = 0 by omega)]
    exact ⟨_, _, _, rfl, fun _ => by omega⟩
theorem st64 (s : Bool) (c : Nat) (q : Int) : ok64 (FP.Core.settle FP.Core.b64 s c q) := by
  unfold FP.Core.settle FP.Core.bound
  rw [t64, pp64, qx64]
  split
  · split
    · rename_i a b; exact ⟨a, b⟩
    · exact trivial
  · split
    · rename_i a b; exact ⟨by decide, b⟩
    · exact trivial
theorem rr64 (s : Bool) (num den : Nat) (e : Int) : ok64 (FP.Core.roundRatio FP.Core.b64 s num den e) := by
  unfold FP.Core.roundRatio
  split
  · rw [qn64]; exact ⟨by decide, by decide⟩
  · exact st64 _ _ _
/-- a whole number of 32 bits, converted -/
theorem wh64 (i : Int) (h : i.natAbs < 2 ^ 32) : ∃ s c q, FP.Core.round FP.Core.b64 (FP.Core.ofInt i) = .fin s c q ∧ c < 9007199254740992 ∧ q ≤ 971 ∧ (i ≠ 0 → c ≠ 0) := by
  unfold FP.Core.ofInt FP.Core.round FP.Core.roundRatio
  dsimp only
  generalize hn : i.natAbs = num at h
  by_cases h0 : num = 0
  · rw [if_pos h0, qn64]
    exact ⟨_, _, _, rfl, by decide, by decide, fun z => absurd h0 (by omega)⟩
  rw [if_neg h0]
  have a1 : 2 ^ num.log2 ≤ num := Nat.log2_self_le h0
  have a2 : num.log2 < 32 := (Nat.log2_lt h0).mpr h
  have hle : FP.Core.leading num 1 = (num.log2 : Int) := by
    unfold FP.Core.leading
    have e1 : Nat.log2 1 = 0 := by decide +kernel
    rw [e1]
    have e2 : ((num.log2 : Int) - ((0 : Nat) : Int)).toNat = num.log2 := by omega
    have e3 : (-((num.log2 : Int) - ((0 : Nat) : Int))).toNat = 0 := by omega
    dsimp only
    rw [e2, e3, if_pos (by rw [Nat.one_mul, Nat.pow_zero, Nat.mul_one]; exact a1)]
    omega
  have hp : ((FP.Core.b64.p : Int) - 1) = 52 := by decide +kernel
  unfold FP.Core.roundAt FP.Core.quantum
  rw [hle, qn64, hp]
  generalize hq : max ((-1074) : Int) ((num.log2 : Int) + 0 - 52) = q
  have q1 : q ≤ (num.log2 : Int) := by omega
  have q2 : q < 32 := by omega
  have hc : FP.Core.nearest (FP.Core.unitsNum num 0 q) (FP.Core.unitsDen 1 0 q) ≠ 0 := by
    have n1 : ∀ a b : Nat, a / b ≤ FP.Core.nearest a b := fun a b => by
      unfold FP.Core.nearest
      split
      · exact Nat.le_refl _
      · split
        · exact Nat.le_succ _
        · exact Nat.le_add_right _ _
    have n2 : 0 < FP.Core.unitsNum num 0 q / FP.Core.unitsDen 1 0 q := by
      unfold FP.Core.unitsNum FP.Core.unitsDen
      refine Nat.div_pos ?_ (Nat.mul_pos Nat.one_pos (Nat.two_pow_pos _))
      rw [Nat.one_mul]
      refine Nat.le_trans (Nat.pow_le_pow_right (by decide) (show (q - 0).toNat ≤ num.log2 by omega)) (Nat.le_trans a1 (Nat.le_mul_of_pos_right _ (Nat.two_pow_pos _)))
    have := n1 (FP.Core.unitsNum num 0 q) (FP.Core.unitsDen 1 0 q)
    omega
  generalize FP.Core.nearest (FP.Core.unitsNum num 0 q) (FP.Core.unitsDen 1 0 q) = c at hc
  unfold FP.Core.settle FP.Core.bound
  rw [t64, pp64, qx64]
  split
  · rename_i a
    rw [if_pos (by omega)]
    exact ⟨_, _, _, rfl, a, by omega, fun _ => hc⟩
  · rw [if_pos (by omega)]
    exact ⟨_, _, _, rfl, by decide, by omega, fun _ => by decide⟩
theorem cv64 (v : Int32) : ∃ s c q, FP.Core.decode FP.Core.b64 (FP.i2d v).toNat = .fin s c q ∧ (v.toInt ≠ 0 → c ≠ 0) := by
  have b1 := Int32.toInt_lt v
  have b2 := Int32.le_toInt v
  obtain ⟨s, c, q, e, h1, h2, h3⟩ := wh64 v.toInt (by omega)
  have hn : (FP.i2d v).toNat = FP.Core.encode FP.Core.b64 (.fin s c q) := by
    show (UInt64.ofNat (FP.Core.encode FP.Core.b64 (FP.Core.round FP.Core.b64 (FP.Core.ofInt v.toInt)))).toNat = _
    rw [e]
    have := (enc64 (.fin s c q) ⟨h1, h2⟩).2
    exact UInt64.toNat_ofNat_of_lt' (by simpa using this)
  rw [hn]
  obtain ⟨s', c', q', k1, k2⟩ := dec64 s c q h1 h2
  exact ⟨s', c', q', k1, fun h => k2 (h3 h)⟩
theorem ddiv_nn (x y : Int32) (h : y.toInt ≠ 0) : vf_n64 (FP.ddiv (FP.i2d x) (FP.i2d y)) := by
  obtain ⟨s, c, q, e1, -⟩ := cv64 x
  obtain ⟨t, d, r, e2, hd⟩ := cv64 y
  have hd := hd h
  have hq : FP.Core.quotient FP.Core.b64 (.fin s c q) (.fin t d r) = FP.Core.roundRatio FP.Core.b64 (s != t) c d (q - r) := by
    show (if d = 0 then (if c = 0 then FP.Core.Datum.nan else .inf (s != t)) else FP.Core.roundRatio FP.Core.b64 (s != t) c d (q - r)) = _
    rw [if_neg hd]
  have hb := enc64 _ (rr64 (s != t) c d (q - r))
  have hn : (FP.ddiv (FP.i2d x) (FP.i2d y)).toNat = FP.Core.encode FP.Core.b64 (FP.Core.roundRatio FP.Core.b64 (s != t) c d (q - r)) := by
    show (UInt64.ofNat (FP.Core.encode FP.Core.b64 (FP.Core.quotient FP.Core.b64 (FP.Core.decode FP.Core.b64 (FP.i2d x).toNat) (FP.Core.decode FP.Core.b64 (FP.i2d y).toNat)))).toNat = _
    rw [e1, e2, hq]
    exact UInt64.toNat_ofNat_of_lt' (by simpa using hb.2)
  unfold vf_n64
  rw [UInt64.le_iff_toNat_le, UInt64.toNat_and, hn]
  have m : ∀ n : Nat, n &&& 9223372036854775807 = n % 9223372036854775808 := fun n => Nat.and_two_pow_sub_one_eq_mod n 63
  show FP.Core.encode FP.Core.b64 _ &&& 9223372036854775807 ≤ 9218868437227405312
  rw [m]
  exact hb.1
theorem t32 : FP.Core.b32.tails = 8388608 := by decide +kernel
theorem e32 : FP.Core.b32.exps = 256 := by decide +kernel
theorem qn32 : FP.Core.b32.qmin = -149 := by decide +kernel
theorem qx32 : FP.Core.b32.qmax = 104 := by decide +kernel
theorem pp32 : 2 ^ FP.Core.b32.p = 16777216 := by decide +kernel
def ok32 : FP.Core.Datum → Prop
  | .nan => False
  | .inf _ => True
  | .fin _ c q => c < 16777216 ∧ q ≤ 104
theorem ei32 (s : Bool) : FP.Core.encode FP.Core.b32 (.inf s) = (s.toNat * 256 + (256 - 1)) * 8388608 + 0 := by
  show FP.Core.assemble FP.Core.b32 s (FP.Core.b32.exps - 1) 0 = _
  unfold FP.Core.assemble
  rw [t32, e32]
theorem ef32 (s : Bool) (c : Nat) (q : Int) : FP.Core.encode FP.Core.b32 (.fin s c q) = if c < 8388608 then (s.toNat * 256 + 0) * 8388608 + c else (s.toNat * 256 + ((q - (-149)).toNat + 1)) * 8388608 + (c - 8388608) := by
  show (if c < FP.Core.b32.tails then FP.Core.assemble FP.Core.b32 s 0 c else FP.Core.assemble FP.Core.b32 s ((q - FP.Core.b32.qmin).toNat + 1) (c - FP.Core.b32.tails)) = _
  unfold FP.Core.assemble
  rw [t32, e32, qn32]
theorem enc32 (d : FP.Core.Datum) (h : ok32 d) : FP.Core.encode FP.Core.b32 d % 2147483648 ≤ 2139095040 ∧ FP.Core.encode FP.Core.b32 d < 4294967296 := by
  cases d with
  | nan => exact h.elim
  | inf s =>
    rw [ei32]
    have hs : s.toNat ≤ 1 := by cases s <;> decide
    omega
  | fin s c q =>
    obtain ⟨h1, h2⟩ : c < 16777216 ∧ q ≤ 104 := h
    rw [ef32]
    have hs : s.toNat ≤ 1 := by cases s <;> decide
    split <;> omega
theorem dec32 (s : Bool) (c : Nat) (q : Int) (h1 : c < 16777216) (h2 : q ≤ 104) : ∃ s' c' q', FP.Core.decode FP.Core.b32 (FP.Core.encode FP.Core.b32 (.fin s c q)) = .fin s' c' q' ∧ (c ≠ 0 → c' ≠ 0) := by
  have hs : s.toNat ≤ 1 := by cases s <;> decide
  rw [ef32]
  unfold FP.Core.decode FP.Core.fieldE FP.Core.fieldT
  rw [t32, e32, qn32]
  by_cases hc : c < 8388608
  · rw [if_pos hc]
    have e1 : ((s.toNat * 256 + 0) * 8388608 + c) / 8388608 % 256 = 0 := by omega
    have e2 : ((s.toNat * 256 + 0) * 8388608 + c) % 8388608 = c := by omega
    rw [e1, e2, if_neg (by decide), if_pos rfl]
    exact ⟨_, _, _, rfl, fun h => h⟩
  · rw [if_neg hc]
    generalize hk : (q - (-149)).toNat + 1 = k
    have k1 : 0 < k := by omega
    have k2 : k < 255 := by omega
    have e1 : ((s.toNat * 256 + k) * 8388608 + (c - 8388608)) / 8388608 % 256 = k := by omega
    rw [e1, if_neg (show ¬ k = 256 - 1 by omega), if_neg (show ¬ k = 0 by omega)]
    exact ⟨_, _, _, rfl, fun _ => by omega⟩
theorem st32 (s : Bool) (c : Nat) (q : Int) : ok32 (FP.Core.settle FP.Core.b32 s c q) := by
  unfold FP.Core.settle FP.Core.bound
  rw [t32, pp32, qx32]
  split
  · split
    · rename_i a b; exact ⟨a, b⟩
    · exact trivial
  · split
    · rename_i a b; exact ⟨by decide, b⟩
    · exact trivial
theorem rr32 (s : Bool) (num den : Nat) (e : Int) : ok32 (FP.Core.roundRatio FP.Core.b32 s num den e) := by
  unfold FP.Core.roundRatio
  split
  · rw [qn32]; exact ⟨by decide, by decide⟩
  · exact st32 _ _ _
/-- a whole number of 32 bits, converted -/
theorem wh32 (i : Int) (h : i.natAbs < 2 ^ 32) : ∃ s c q, FP.Core.round FP.Core.b32 (FP.Core.ofInt i) = .fin s c q ∧ c < 16777216 ∧ q ≤ 104 ∧ (i ≠ 0 → c ≠ 0) := by
  unfold FP.Core.ofInt FP.Core.round FP.Core.roundRatio
  dsimp only
  generalize hn : i.natAbs = num at h
  by_cases h0 : num = 0
  · rw [if_pos h0, qn32]
    exact ⟨_, _, _, rfl, by decide, by decide, fun z => absurd h0 (by omega)⟩
  rw [if_neg h0]
  have a1 : 2 ^ num.log2 ≤ num := Nat.log2_self_le h0
  have a2 : num.log2 < 32 := (Nat.log2_lt h0).mpr h
  have hle : FP.Core.leading num 1 = (num.log2 : Int) := by
    unfold FP.Core.leading
    have e1 : Nat.log2 1 = 0 := by decide +kernel
    rw [e1]
    have e2 : ((num.log2 : Int) - ((0 : Nat) : Int)).toNat = num.log2 := by omega
    have e3 : (-((num.log2 : Int) - ((0 : Nat) : Int))).toNat = 0 := by omega
    dsimp only
    rw [e2, e3, if_pos (by rw [Nat.one_mul, Nat.pow_zero, Nat.mul_one]; exact a1)]
    omega
  have hp : ((FP.Core.b32.p : Int) - 1) = 23 := by decide +kernel
  unfold FP.Core.roundAt FP.Core.quantum
  rw [hle, qn32, hp]
  generalize hq : max ((-149) : Int) ((num.log2 : Int) + 0 - 23) = q
  have q1 : q ≤ (num.log2 : Int) := by omega
  have q2 : q < 32 := by omega
  have hc : FP.Core.nearest (FP.Core.unitsNum num 0 q) (FP.Core.unitsDen 1 0 q) ≠ 0 := by
    have n1 : ∀ a b : Nat, a / b ≤ FP.Core.nearest a b := fun a b => by
      unfold FP.Core.nearest
      split
      · exact Nat.le_refl _
      · split
        · exact Nat.le_succ _
        · exact Nat.le_add_right _ _
    have n2 : 0 < FP.Core.unitsNum num 0 q / FP.Core.unitsDen 1 0 q := by
      unfold FP.Core.unitsNum FP.Core.unitsDen
      refine Nat.div_pos ?_ (Nat.mul_pos Nat.one_pos (Nat.two_pow_pos _))
      rw [Nat.one_mul]
      refine Nat.le_trans (Nat.pow_le_pow_right (by decide) (show (q - 0).toNat ≤ num.log2 by omega)) (Nat.le_trans a1 (Nat.le_mul_of_pos_right _ (Nat.two_pow_pos _)))
    have := n1 (FP.Core.unitsNum num 0 q) (FP.Core.unitsDen 1 0 q)
    omega
  generalize FP.Core.nearest (FP.Core.unitsNum num 0 q) (FP.Core.unitsDen 1 0 q) = c at hc
  unfold FP.Core.settle FP.Core.bound
  rw [t32, pp32, qx32]
  split
  · rename_i a
    rw [if_pos (by omega)]
    exact ⟨_, _, _, rfl, a, by omega, fun _ => hc⟩
  · rw [if_pos (by omega)]
    exact ⟨_, _, _, rfl, by decide, by omega, fun _ => by decide⟩
theorem cv32 (v : Int32) : ∃ s c q, FP.Core.decode FP.Core.b32 (FP.i2f v).toNat = .fin s c q ∧ (v.toInt ≠ 0 → c ≠ 0) := by
  have b1 := Int32.toInt_lt v
  have b2 := Int32.le_toInt v
  obtain ⟨s, c, q, e, h1, h2, h3⟩ := wh32 v.toInt (by omega)
  have hn : (FP.i2f v).toNat = FP.Core.encode FP.Core.b32 (.fin s c q) := by
    show (UInt32.ofNat (FP.Core.encode FP.Core.b32 (FP.Core.round FP.Core.b32 (FP.Core.ofInt v.toInt)))).toNat = _
    rw [e]
    have := (enc32 (.fin s c q) ⟨h1, h2⟩).2
    exact UInt32.toNat_ofNat_of_lt' (by simpa using this)
  rw [hn]
  obtain ⟨s', c', q', k1, k2⟩ := dec32 s c q h1 h2
  exact ⟨s', c', q', k1, fun h => k2 (h3 h)⟩
theorem fdiv_nn (x y : Int32) (h : y.toInt ≠ 0) : vf_n32 (FP.fdiv (FP.i2f x) (FP.i2f y)) := by
  obtain ⟨s, c, q, e1, -⟩ := cv32 x
  obtain ⟨t, d, r, e2, hd⟩ := cv32 y
  have hd := hd h
  have hq : FP.Core.quotient FP.Core.b32 (.fin s c q) (.fin t d r) = FP.Core.roundRatio FP.Core.b32 (s != t) c d (q - r) := by
    show (if d = 0 then (if c = 0 then FP.Core.Datum.nan else .inf (s != t)) else FP.Core.roundRatio FP.Core.b32 (s != t) c d (q - r)) = _
    rw [if_neg hd]
  have hb := enc32 _ (rr32 (s != t) c d (q - r))
  have hn : (FP.fdiv (FP.i2f x) (FP.i2f y)).toNat = FP.Core.encode FP.Core.b32 (FP.Core.roundRatio FP.Core.b32 (s != t) c d (q - r)) := by
    show (UInt32.ofNat (FP.Core.encode FP.Core.b32 (FP.Core.quotient FP.Core.b32 (FP.Core.decode FP.Core.b32 (FP.i2f x).toNat) (FP.Core.decode FP.Core.b32 (FP.i2f y).toNat)))).toNat = _
    rw [e1, e2, hq]
    exact UInt32.toNat_ofNat_of_lt' (by simpa using hb.2)
  unfold vf_n32
  rw [UInt32.le_iff_toNat_le, UInt32.toNat_and, hn]
  have m : ∀ n : Nat, n &&& 2147483647 = n % 2147483648 := fun n => Nat.and_two_pow_sub_one_eq_mod n 31
  show FP.Core.encode FP.Core.b32 _ &&& 2147483647 ≤ 2139095040
  rw [m]
  exact hb.1
