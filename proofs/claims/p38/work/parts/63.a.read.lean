/-! READING A TEXT -/
theorem fill_0 (nu : Nat → Int32) : F_J7_fill_53178 nu 3 0 0 = 0 ∧ F_J7_fill_53178 nu 3 0 1 = 0 ∧ F_J7_fill_53178 nu 3 0 2 = 0 := ⟨rfl, rfl, rfl⟩
theorem pl_nn {p : Nat} (h : p < 1000) : ¬ nI p < 0 := by rw [Int32.lt_iff_toInt_lt, nI_toInt (by omega), i0]; omega
theorem pl_lt {p n : Nat} (h : p < n) (hn : n ≤ 60) : ¬ nI n ≤ nI p := by rw [qI_le (by omega) (by omega)]; omega
theorem part48 {sg nu : Nat → Int32} {n p : Nat} (hn : n ≤ 60) (hp : p < n) (h1 : ¬ sg p < 48) (h2 : ¬ 57 < sg p) : F_X3_readPart_48 sg (nI n) (nI p) nu = (1, upd nu 0 (((nu 0 * 10) + sg p) - 48), nI (p + 1)) := by
  unfold F_X3_readPart_48
  rw [if_neg (pl_nn (by omega)), if_neg (pl_lt hp hn), qI_ix (by omega), if_neg h1, if_neg h2, qI_succ (by omega)]
theorem part49 {sg nu : Nat → Int32} {n p : Nat} (hn : n ≤ 60) (hp : p < n) (h1 : ¬ sg p < 48) (h2 : ¬ 57 < sg p) : F_X3_readPart_49 sg (nI n) (nI p) nu = (1, upd nu 1 (((nu 1 * 10) + sg p) - 48), nI (p + 1)) := by
  unfold F_X3_readPart_49
  rw [if_neg (pl_nn (by omega)), if_neg (pl_lt hp hn), qI_ix (by omega), if_neg h1, if_neg h2, qI_succ (by omega)]
theorem part50 {sg nu : Nat → Int32} {n p : Nat} (hn : n ≤ 60) (hp : p < n) (h1 : ¬ sg p < 48) (h2 : ¬ 57 < sg p) : F_X3_readPart_50 sg (nI n) (nI p) nu = (1, upd nu 2 (((nu 2 * 10) + sg p) - 48), nI (p + 1)) := by
  unfold F_X3_readPart_50
  rw [if_neg (pl_nn (by omega)), if_neg (pl_lt hp hn), qI_ix (by omega), if_neg h1, if_neg h2, qI_succ (by omega)]
theorem part61 {sg : Nat → Int32} {n p : Nat} (hn : n ≤ 60) (hp : p < n) (h1 : sg p = 61) : F_X3_readPart_61 sg (nI n) (nI p) = (1, nI (p + 1)) := by
  unfold F_X3_readPart_61
  rw [if_neg (pl_nn (by omega)), if_neg (pl_lt hp hn), qI_ix (by omega), h1, if_neg (by decide), if_pos (by decide), if_pos rfl, qI_succ (by omega)]
/-- behind a command: the end, or a ';' -/
def ends (sg : Nat → Int32) (n p : Nat) : Prop := p ≤ n ∧ (p < n → sg p = 59)
theorem part63 {sg nu : Nat → Int32} {n p : Nat} (hn : n ≤ 60) (h : ends sg n p) : F_X3_readPart_63 sg (nI n) (nI p) nu = (1, nu, nI p) := by
  unfold F_X3_readPart_63
  obtain ⟨h1, h2⟩ := h
  rw [if_neg (pl_nn (by omega))]
  by_cases c : p < n
  · rw [if_neg (pl_lt c hn), qI_ix (by omega), h2 c, if_neg (by decide), if_pos (by decide)]
  · rw [if_pos (by rw [qI_le (by omega) (by omega)]; omega)]
def numsOf (nu : Nat → Int32) (a b c : Int32) : Prop := F_X3_number nu 0 = a ∧ F_X3_number nu 1 = b ∧ F_X3_number nu 2 = c
theorem number0 (nu : Nat → Int32) : F_X3_number nu 0 = nu 0 := rfl
theorem number1 (nu : Nat → Int32) : F_X3_number nu 1 = nu 1 := rfl
theorem number2 (nu : Nat → Int32) : F_X3_number nu 2 = nu 2 := rfl
/-- a command is read, whatever was read before -/
def RDC (sg : Nat → Int32) (n p ch : Nat) (a b c : Int32) (q : Nat) : Prop := ∀ ch0 nu0, ∃ nu', F_X3_readCommand sg (nI n) (nI p) ch0 nu0 = (1, nu', nI q, ch) ∧ F_X3_number nu' 0 = a ∧ F_X3_number nu' 1 = b ∧ F_X3_number nu' 2 = c
theorem digit {d : Nat} (hd : d ≤ 9) : ¬ nI (48 + d) < 48 ∧ ¬ 57 < nI (48 + d) ∧ (((0 : Int32) * 10 + nI (48 + d)) - 48) = nI d := by
  have key : ∀ i : Fin 10, ¬ nI (48 + i.val) < 48 ∧ ¬ 57 < nI (48 + i.val) ∧ (((0 : Int32) * 10 + nI (48 + i.val)) - 48) = nI i.val := by decide +kernel
  exact key ⟨d, by omega⟩
theorem rdc_t {sg : Nat → Int32} {n p d : Nat} (hn : n ≤ 60) (h0 : sg p = 116) (hd : d ≤ 9) (h1 : sg (p + 1) = nI (48 + d)) (h2 : ends sg n (p + 2)) : RDC sg n p 5 (nI d) 0 0 (p + 2) := by
  intro ch0 nu0
  obtain ⟨d1, d2, d3⟩ := digit hd
  have hl := h2.1
  obtain ⟨f0, f1, f2⟩ := fill_0 nu0
  refine ⟨(upd (F_J7_fill_53178 nu0 3 0) 0 ((((F_J7_fill_53178 nu0 3 0) 0 * 10) + sg (p + 1)) - 48)), ?_, ?_⟩
  · unfold F_X3_readCommand
    rw [if_neg (pl_nn (by omega)), if_neg (pl_lt (by omega) hn), qI_ix (by omega), h0, show F_X2_beginningWith 116 = 5 from by decide, if_neg (by decide), if_neg (by decide), if_neg (by decide), if_neg (by decide), if_neg (by decide), if_pos rfl, qI_succ (by omega), part48 hn (by omega) (by rw [h1]; exact d1) (by rw [h1]; exact d2)]
    show K_X3_readCommand_88_7 sg (nI n) (F_X3_readPart_63 sg (nI n) (nI (p + 1 + 1)) _) = _
    rw [part63 hn h2]
    show (if nI n ≤ nI (p + 1 + 1) then _ else _) = _
    by_cases c : p + 2 < n
    · rw [if_neg (pl_lt c hn), qI_ix (by omega), h2.2 c, if_pos rfl]
    · rw [if_pos (by rw [qI_le (by omega) (by omega)]; omega)]
  · rw [number0, number1, number2, updA, updA, updA, if_pos rfl, if_neg (by decide), if_neg (by decide), h1, f0, f1, f2]
    exact ⟨d3, rfl, rfl⟩
theorem k882 {sg nu : Nat → Int32} {ln q : Int32} : K_X3_readCommand_88_2 sg ln (1, nu, q) = K_X3_readCommand_88_1 sg ln (F_X3_readPart_49 sg ln q nu) := by
  unfold K_X3_readCommand_88_2
  exact if_neg (show ¬ (1 : Int32) = 0 from by decide)
theorem k881 {sg nu : Nat → Int32} {ln q q2 : Int32} (h : F_X3_readPart_61 sg ln q = (1, q2)) : K_X3_readCommand_88_1 sg ln (1, nu, q) = K_X3_readCommand_88 sg ln (F_X3_readPart_50 sg ln q2 nu) := by
  unfold K_X3_readCommand_88_1
  simp only []
  rw [if_neg (show ¬ (1 : Int32) = 0 from by decide), h, if_neg (show ¬ (1 : Int32) = 0 from by decide)]
theorem k88 {sg nu : Nat → Int32} {ln q : Int32} : K_X3_readCommand_88 sg ln (1, nu, q) = if ln ≤ q then (1, nu, q, 1) else if sg (ix q) = 59 then (1, nu, q, 1) else (0, nu, q, 1) := by
  unfold K_X3_readCommand_88
  exact if_neg (show ¬ (1 : Int32) = 0 from by decide)
theorem rdc_c {sg : Nat → Int32} {n p a b v : Nat} (hn : n ≤ 60) (h0 : sg p = 99) (ha : a ≤ 9) (hb : b ≤ 9) (hv : v ≤ 9) (h1 : sg (p + 1) = nI (48 + a)) (h2 : sg (p + 2) = nI (48 + b)) (h3 : sg (p + 3) = 61) (h4 : sg (p + 4) = nI (48 + v)) (h5 : ends sg n (p + 5)) : RDC sg n p 1 (nI a) (nI b) (nI v) (p + 5) := by
  intro ch0 nu0
  obtain ⟨a1, a2, a3⟩ := digit ha
  obtain ⟨b1, b2, b3⟩ := digit hb
  obtain ⟨v1, v2, v3⟩ := digit hv
  have hl := h5.1
  obtain ⟨f0, f1, f2⟩ := fill_0 nu0
  obtain ⟨A, hA⟩ : ∃ A, A = (upd (F_J7_fill_53178 nu0 3 0) 0 ((((F_J7_fill_53178 nu0 3 0) 0 * 10) + sg (p + 1)) - 48)) := ⟨_, rfl⟩
  obtain ⟨B, hB⟩ : ∃ B, B = upd A 1 (((A 1 * 10) + sg (p + 2)) - 48) := ⟨_, rfl⟩
  obtain ⟨C, hC⟩ : ∃ C, C = upd B 2 (((B 2 * 10) + sg (p + 4)) - 48) := ⟨_, rfl⟩
  refine ⟨C, ?_, ?_⟩
  · unfold F_X3_readCommand
    rw [if_neg (pl_nn (by omega)), if_neg (pl_lt (by omega) hn), qI_ix (by omega), h0, show F_X2_beginningWith 99 = 1 from by decide, if_neg (by decide), if_pos rfl, qI_succ (by omega), part48 hn (by omega) (by rw [h1]; exact a1) (by rw [h1]; exact a2), show p + 1 + 1 = p + 2 from rfl, ← hA]
    rw [k882, part49 hn (by omega) (by rw [h2]; exact b1) (by rw [h2]; exact b2), show p + 2 + 1 = p + 3 from rfl, ← hB, k881 (part61 hn (by omega) h3), show p + 3 + 1 = p + 4 from rfl, part50 hn (by omega) (by rw [h4]; exact v1) (by rw [h4]; exact v2), show p + 4 + 1 = p + 5 from rfl, ← hC, k88]
    by_cases c : p + 5 < n
    · rw [if_neg (pl_lt c hn), qI_ix (by omega), h5.2 c, if_pos rfl]
    · rw [if_pos (by rw [qI_le (by omega) (by omega)]; omega)]
  · rw [number0, number1, number2, hC, hB, hA]
    simp only [updA, h1, h2, h4, f0, f1, f2, if_pos, if_neg, show ¬ (0 : Nat) = 2 from by decide, show ¬ (0 : Nat) = 1 from by decide, show ¬ (1 : Nat) = 2 from by decide, show ¬ (1 : Nat) = 0 from by decide, show ¬ (2 : Nat) = 0 from by decide, show ¬ (2 : Nat) = 1 from by decide, if_true, if_false]
    exact ⟨a3, b3, v3⟩
theorem rdc_x {sg : Nat → Int32} {n p a b : Nat} (hn : n ≤ 60) (h0 : sg p = 120) (ha : a ≤ 9) (hb : b ≤ 9) (h1 : sg (p + 1) = nI (48 + a)) (h2 : sg (p + 2) = nI (48 + b)) (h5 : ends sg n (p + 3)) : RDC sg n p 2 (nI a) (nI b) 0 (p + 3) := by
  intro ch0 nu0
  obtain ⟨a1, a2, a3⟩ := digit ha
  obtain ⟨b1, b2, b3⟩ := digit hb
  have hl := h5.1
  obtain ⟨f0, f1, f2⟩ := fill_0 nu0
  refine ⟨(upd (upd (F_J7_fill_53178 nu0 3 0) 0 ((((F_J7_fill_53178 nu0 3 0) 0 * 10) + sg (p + 1)) - 48)) 1 ((((upd (F_J7_fill_53178 nu0 3 0) 0 ((((F_J7_fill_53178 nu0 3 0) 0 * 10) + sg (p + 1)) - 48)) 1 * 10) + sg (p + 2)) - 48)), ?_, ?_⟩
  · unfold F_X3_readCommand
    rw [if_neg (pl_nn (by omega)), if_neg (pl_lt (by omega) hn), qI_ix (by omega), h0, show F_X2_beginningWith 120 = 2 from by decide, if_neg (by decide), if_neg (by decide), if_pos rfl, qI_succ (by omega), part48 hn (by omega) (by rw [h1]; exact a1) (by rw [h1]; exact a2), show p + 1 + 1 = p + 2 from rfl]
    show K_X3_readCommand_88_3 sg (nI n) (F_X3_readPart_49 sg (nI n) (nI (p + 2)) _) = _
    rw [part49 hn (by omega) (by rw [h2]; exact b1) (by rw [h2]; exact b2), show p + 2 + 1 = p + 3 from rfl]
    show (if nI n ≤ nI (p + 3) then _ else _) = _
    by_cases c : p + 3 < n
    · rw [if_neg (pl_lt c hn), qI_ix (by omega), h5.2 c, if_pos rfl]
    · rw [if_pos (by rw [qI_le (by omega) (by omega)]; omega)]
  · rw [number0, number1, number2]
    simp only [updA, h1, h2, f0, f1, f2, if_pos, if_neg, show ¬ (0 : Nat) = 2 from by decide, show ¬ (0 : Nat) = 1 from by decide, show ¬ (1 : Nat) = 2 from by decide, show ¬ (1 : Nat) = 0 from by decide, show ¬ (2 : Nat) = 0 from by decide, show ¬ (2 : Nat) = 1 from by decide, if_true, if_false]
    exact ⟨a3, b3, trivial⟩
/-! faults -/
theorem ff_step {sg : Nat → Int32} {n p q ch : Nat} {a b c : Int32} (hn : n ≤ 60) (h : RDC sg n p ch a b c q) (hq : q < n) (k x : Nat) (hx : x < 60) (ch0 : Nat) (nu0 : Nat → Int32) : ∃ nu', L_X3_findFault_6 sg (nI n) (k + 1) (nI x) (nI p) ch0 nu0 = L_X3_findFault_6 sg (nI n) k (nI (x + 1)) (nI (q + 1)) ch nu' := by
  obtain ⟨nu', e, -⟩ := h ch0 nu0
  refine ⟨nu', ?_⟩
  show B_X3_findFault_6 sg (nI n) (L_X3_findFault_6 sg (nI n) k) (nI x) (nI p) ch0 nu0 = _
  unfold B_X3_findFault_6
  rw [if_neg (show ¬ (60 : Int32) ≤ nI x by rw [show (60 : Int32) = nI 60 from rfl, qI_le (by omega) (by omega)]; omega), e]
  show (if (1 : Int32) = 0 then (some (nI q, nu', nI q, ch), nI x, nI p, ch0, nu0) else if nI q < nI n then L_X3_findFault_6 sg (nI n) k (nI x + 1) (nI q + 1) ch nu' else (some ((-1), nu', nI q, ch), nI x, nI p, ch0, nu0)) = _
  rw [if_neg (by decide), if_pos (by rw [qI_lt (by omega) (by omega)]; omega), qI_succ (by omega), qI_succ (by omega)]
theorem ff_last {sg : Nat → Int32} {n p ch : Nat} {a b c : Int32} (hn : n ≤ 60) (h : RDC sg n p ch a b c n) (k x : Nat) (hx : x < 60) (ch0 : Nat) (nu0 : Nat → Int32) : ∃ nu' pl' ch', K_X3_findFault_6 (L_X3_findFault_6 sg (nI n) (k + 1) (nI x) (nI p) ch0 nu0) = (-1, nu', pl', ch') := by
  obtain ⟨nu', e, -⟩ := h ch0 nu0
  refine ⟨nu', nI n, ch, ?_⟩
  rw [show L_X3_findFault_6 sg (nI n) (k + 1) (nI x) (nI p) ch0 nu0 = B_X3_findFault_6 sg (nI n) (L_X3_findFault_6 sg (nI n) k) (nI x) (nI p) ch0 nu0 from rfl]
  unfold B_X3_findFault_6
  rw [if_neg (show ¬ (60 : Int32) ≤ nI x by rw [show (60 : Int32) = nI 60 from rfl, qI_le (by omega) (by omega)]; omega), e]
  show K_X3_findFault_6 (if (1 : Int32) = 0 then (some (nI n, nu', nI n, ch), nI x, nI p, ch0, nu0) else if nI n < nI n then L_X3_findFault_6 sg (nI n) k (nI x + 1) (nI n + 1) ch nu' else (some ((-1), nu', nI n, ch), nI x, nI p, ch0, nu0)) = _
  rw [if_neg (by decide), if_neg (by rw [qI_lt (by omega) (by omega)]; omega)]
  rfl
/-- the first sign is no command's -/
theorem ff_none {sg : Nat → Int32} {n : Nat} (hn : n ≤ 60) (h0 : 0 < n) (h : F_X2_beginningWith (sg 0) = 6) (ch : Nat) (nu : Nat → Int32) : F_X3_findFault sg (nI n) ch nu = (0, nu, 0, ch) := by
  unfold F_X3_findFault
  rw [show (((60 : Int32).toInt - (0 : Int32).toInt).toNat + 1) = 60 + 1 from by decide, show L_X3_findFault_6 sg (nI n) (60 + 1) 0 F_X3_toStart ch nu = B_X3_findFault_6 sg (nI n) (L_X3_findFault_6 sg (nI n) 60) 0 F_X3_toStart ch nu from rfl]
  unfold B_X3_findFault_6
  rw [if_neg (by decide)]
  have e : F_X3_readCommand sg (nI n) F_X3_toStart ch nu = (0, nu, 0, ch) := by
    unfold F_X3_readCommand
    rw [show F_X3_toStart = nI 0 from rfl, if_neg (pl_nn (by omega)), if_neg (pl_lt h0 hn), qI_ix (by omega), h, if_neg (by decide), if_neg (by decide), if_neg (by decide), if_neg (by decide), if_neg (by decide), if_neg (by decide)]
    rfl
  rw [e]
  rfl
theorem ff_two {sg : Nat → Int32} {n q ch1 ch2 : Nat} {a1 b1 c1 a2 b2 c2 : Int32} (hn : n ≤ 60) (h1 : RDC sg n 0 ch1 a1 b1 c1 q) (hq : q < n) (h2 : RDC sg n (q + 1) ch2 a2 b2 c2 n) (ch : Nat) (nu : Nat → Int32) : ∃ nu' pl' ch', F_X3_findFault sg (nI n) ch nu = (-1, nu', pl', ch') := by
  unfold F_X3_findFault
  rw [show (((60 : Int32).toInt - (0 : Int32).toInt).toNat + 1) = 59 + 1 + 1 from by decide]
  obtain ⟨nu1, e1⟩ := ff_step hn h1 hq (59 + 1) 0 (by omega) ch nu
  rw [show (0 : Int32) = nI 0 from rfl, show F_X3_toStart = nI 0 from rfl, e1]
  exact ff_last hn h2 59 (0 + 1) (by omega) ch1 nu1
theorem ff_three {sg : Nat → Int32} {n q q2 ch1 ch2 ch3 : Nat} {a1 b1 c1 a2 b2 c2 a3 b3 c3 : Int32} (hn : n ≤ 60) (h1 : RDC sg n 0 ch1 a1 b1 c1 q) (hq : q < n) (h2 : RDC sg n (q + 1) ch2 a2 b2 c2 q2) (hq2 : q2 < n) (h3 : RDC sg n (q2 + 1) ch3 a3 b3 c3 n) (ch : Nat) (nu : Nat → Int32) : ∃ nu' pl' ch', F_X3_findFault sg (nI n) ch nu = (-1, nu', pl', ch') := by
  unfold F_X3_findFault
  rw [show (((60 : Int32).toInt - (0 : Int32).toInt).toNat + 1) = 58 + 1 + 1 + 1 from by decide]
  obtain ⟨nu1, e1⟩ := ff_step hn h1 hq (58 + 1 + 1) 0 (by omega) ch nu
  obtain ⟨nu2, e2⟩ := ff_step hn h2 hq2 (58 + 1) (0 + 1) (by omega) ch1 nu1
  rw [show (0 : Int32) = nI 0 from rfl, show F_X3_toStart = nI 0 from rfl, e1, e2]
  exact ff_last hn h3 58 (0 + 1 + 1) (by omega) ch2 nu2
