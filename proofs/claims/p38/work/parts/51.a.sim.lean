/-! THE SURVEY AND THE MODEL -/
theorem i36 : (36 : Int32).toInt = 36 := by decide
theorem i6 : (6 : Int32).toInt = 6 := by decide
theorem i1 : (1 : Int32).toInt = 1 := by decide
theorem i0 : (0 : Int32).toInt = 0 := by decide
theorem nn_xor {a b : Int32} (ha : 0 ≤ a.toInt) (hb : 0 ≤ b.toInt) : 0 ≤ a ^^^ b := by
  rw [Int32.le_iff_toInt_le, i0]
  have h1 : a.toBitVec.msb = false := by
    have : a.toBitVec.toInt = a.toInt := rfl
    rw [BitVec.msb_eq_false_iff_two_mul_lt]
    have e := BitVec.toInt_eq_toNat_cond a.toBitVec
    have l := a.toBitVec.isLt
    omega
  have h2 : b.toBitVec.msb = false := by
    have : b.toBitVec.toInt = b.toInt := rfl
    rw [BitVec.msb_eq_false_iff_two_mul_lt]
    have e := BitVec.toInt_eq_toNat_cond b.toBitVec
    have l := b.toBitVec.isLt
    omega
  have h3 : (a ^^^ b).toBitVec.msb = false := by
    rw [Int32.toBitVec_xor, BitVec.msb_xor, h1, h2]; rfl
  have e := BitVec.toInt_eq_toNat_cond (a ^^^ b).toBitVec
  rw [BitVec.msb_eq_false_iff_two_mul_lt] at h3
  show 0 ≤ (a ^^^ b).toBitVec.toInt
  rw [e, if_pos h3]
  omega
theorem dvI {a b : Int32} (ha : 0 ≤ a.toInt) (hb : 0 < b.toInt) : (a / b).toInt = a.toInt / b.toInt := by
  rw [Int32.toInt_div, Int.tdiv_eq_ediv_of_nonneg ha]
  have h1 := Int32.toInt_lt a
  have h2 : a.toInt / b.toInt ≤ a.toInt := Int.ediv_le_self _ ha
  have h3 : 0 ≤ a.toInt / b.toInt := Int.ediv_nonneg ha (by omega)
  exact Int.bmod_eq_of_le (by omega) (by omega)
theorem rmI_n {a b : Int32} (ha : 0 ≤ a.toInt) (hb : 0 < b.toInt) : (rmI a b).toInt = a.toInt % b.toInt := by
  rw [rmI_t a b hb, Int.tmod_eq_emod_of_nonneg ha]
theorem fm36 {a : Int32} (ha : 0 ≤ a.toInt) : (F_J9_floorMod_7cf53_36 a).toInt = a.toInt % 36 := by
  unfold F_J9_floorMod_7cf53_36
  rw [if_pos (nn_xor ha (by rw [i36]; decide)), rmI_n ha (by rw [i36]; decide), i36]
theorem fm6 {a : Int32} (ha : 0 ≤ a.toInt) : (F_J9_floorMod_7cf53_6 a).toInt = a.toInt % 6 := by
  unfold F_J9_floorMod_7cf53_6
  rw [if_pos (nn_xor ha (by rw [i6]; decide)), rmI_n ha (by rw [i6]; decide), i6]
theorem i32_ext {a b : Int32} (h : a.toInt = b.toInt) : a = b := Int32.toInt_inj.mp h
theorem qI_eq {a : Int32} {n : Nat} (hn : n < 2 ^ 31) (h : a.toInt = n) : a = nI n := i32_ext (by rw [h, nI_toInt hn])
theorem qI_ix {n : Nat} (hn : n < 2 ^ 31) : ix (nI n) = n := by rw [ix_toNat, nI_toInt hn]; rfl
theorem qI_lt {a b : Nat} (ha : a < 2 ^ 31) (hb : b < 2 ^ 31) : nI a < nI b ↔ a < b := by
  rw [Int32.lt_iff_toInt_lt, nI_toInt ha, nI_toInt hb]; omega
theorem qI_le {a b : Nat} (ha : a < 2 ^ 31) (hb : b < 2 ^ 31) : nI a ≤ nI b ↔ a ≤ b := by
  rw [Int32.le_iff_toInt_le, nI_toInt ha, nI_toInt hb]; omega
theorem qI_inj {a b : Nat} (ha : a < 2 ^ 31) (hb : b < 2 ^ 31) : nI a = nI b ↔ a = b := by
  refine ⟨fun h => ?_, fun h => by rw [h]⟩
  have e := congrArg Int32.toInt h
  rw [nI_toInt ha, nI_toInt hb] at e
  omega
theorem qI_0 : nI 0 = 0 := rfl
theorem qI_succ {a : Nat} (ha : a + 1 < 2 ^ 31) : nI a + 1 = nI (a + 1) := qI_eq ha (by rw [addI (by rw [nI_toInt (by omega), i1]; omega) (by rw [nI_toInt (by omega), i1]; omega), nI_toInt (by omega), i1]; rfl)
theorem has_nI {n a : Nat} (hn : n < 2 ^ 31) (ha : a < 2 ^ 31) : F_X8_has (nI n) (nI a) = if a < n then 1 else 0 := by
  unfold F_X8_has
  rw [if_neg (by rw [Int32.lt_iff_toInt_lt, nI_toInt ha, i0]; omega)]
  by_cases c : a < n
  · rw [if_pos c, if_neg (by rw [qI_le hn ha]; omega)]
  · rw [if_neg c, if_pos (by rw [qI_le hn ha]; omega)]
theorem pair_nI {a b : Nat} (ha : a < 6) (hb : b < 6) : F_X8_pair (nI a) (nI b) = nI (6 * a + b) := by
  have key : ∀ i j : Fin 6, F_X8_pair (nI i.val) (nI j.val) = nI (6 * i.val + j.val) := by decide +kernel
  exact key ⟨a, ha⟩ ⟨b, hb⟩
theorem ixpair_nI {a b : Nat} (ha : a < 6) (hb : b < 6) : ix (F_X8_pair (nI a) (nI b)) = 6 * a + b := by rw [pair_nI ha hb, qI_ix (by omega)]
/-- neighbours, costs of canals -/
def nbF (ds cs : Nat → Int32) (n a b : Nat) : Bool := decide (a < n ∧ b < n ∧ ¬ cs (6 * a + b) ≤ 0 ∧ ds a = ds b)
def cstF (cs : Nat → Int32) (a b : Nat) : Int32 := cs (6 * a + b)
theorem nei_nI {ds cs : Nat → Int32} {n a b : Nat} (hn : n ≤ 6) (ha : a < 6) (hb : b < 6) : F_X8_areNeighbours ds cs (nI n) (nI a) (nI b) = if nbF ds cs n a b = true then 1 else 0 := by
  unfold F_X8_areNeighbours nbF
  rw [has_nI (by omega) (by omega), has_nI (by omega) (by omega), ixpair_nI ha hb, qI_ix (by omega), qI_ix (by omega)]
  by_cases c1 : a < n
  · rw [if_pos c1, if_neg (by decide)]
    by_cases c2 : b < n
    · rw [if_pos c2, if_neg (by decide)]
      by_cases c3 : cs (6 * a + b) ≤ 0
      · rw [if_pos c3, if_neg (by simp [c3])]
      · rw [if_neg c3]
        by_cases c4 : ds a = ds b
        · rw [if_pos c4, if_pos (by simp [c1, c2, c3, c4])]
        · rw [if_neg c4, if_neg (by simp [c4])]
    · rw [if_neg c2, if_pos rfl, if_neg (by simp [c2])]
  · rw [if_neg c1, if_pos rfl, if_neg (by simp [c1])]
/-- the canals: both ways, none to itself -/
def CSY (cs : Nat → Int32) : Prop := (∀ a b : Nat, a < 6 → b < 6 → cs (6 * a + b) = cs (6 * b + a)) ∧ ∀ a : Nat, a < 6 → cs (6 * a + a) = 0
theorem nbF_NB {ds cs : Nat → Int32} {n : Nat} (hn : n ≤ 6) (h : CSY cs) : NB_ (nbF ds cs n) := fun a b hab => by
  obtain ⟨h1, h2, h3, h4⟩ := of_decide_eq_true hab
  refine ⟨by omega, by omega, fun e => ?_, decide_eq_true ⟨h2, h1, by rw [h.1 b a (by omega) (by omega)]; exact h3, h4.symm⟩⟩
  subst e
  rw [h.2 a (by omega)] at h3
  exact h3 (by decide)
/-- a letter as it is packed -/
def LTR (PP : List PG) (v : Int32) (l : LT) : Prop := l.1 < 6 ∧ l.2.1 < 6 ∧ ∃ i : Nat, i < PP.length ∧ v.toInt = 36 * i + 6 * l.1 + l.2.1 ∧ l.2.2 = pgd PP i
/-- the survey is as the model says -/
def SIM (PP : List PG) (mp pk : Nat → Int32) (cn : Int32) (M : MP) (lt : List LT) : Prop :=
  (0 < PP.length ∧ PP.length ≤ 2000000 ∧ pgd PP 0 = pg0) ∧ (∀ j : Nat, 0 ≤ (mp j).toInt ∧ (mp j).toInt < PP.length ∧ (36 ≤ j → mp j = 0)) ∧ (∀ a b : Nat, M a b = if a < 6 ∧ b < 6 then pgd PP (ix (mp (6 * a + b))) else pg0) ∧
  cn.toInt = lt.length ∧ ∀ k : Nat, ∀ l : LT, lt[k]? = some l → LTR PP (pk k) l
theorem num_in {PP : List PG} {v : Int32} (h0 : 0 ≤ v.toInt) (h1 : v.toInt < PP.length) (h2 : PP.length ≤ 2000000) : F_X1_numbered PP v = ix v := by
  unfold F_X1_numbered F_Jx4a65c_size_8abf5
  rw [if_neg (by rw [Int32.lt_iff_toInt_lt, i0]; omega), if_neg (by rw [Int32.le_iff_toInt_le, nI_toInt (by omega)]; omega)]
  rfl
theorem SIM.page {PP : List PG} {mp pk : Nat → Int32} {cn : Int32} {M : MP} {lt : List LT} (h : SIM PP mp pk cn M lt) {a b : Nat} (ha : a < 6) (hb : b < 6) : pgd PP (F_X8_pageIn PP mp (nI a) (nI b)) = M a b := by
  unfold F_X8_pageIn
  rw [ixpair_nI ha hb, num_in (h.2.1 _).1 (h.2.1 _).2.1 h.1.2.1, h.2.2.1, if_pos ⟨ha, hb⟩]
theorem LTR.send {PP : List PG} {v : Int32} {l : LT} (h : LTR PP v l) (hb : PP.length ≤ 2000000) : F_J9_floorMod_7cf53_36 v / 6 = nI l.1 ∧ F_J9_floorMod_7cf53_6 v = nI l.2.1 ∧ F_X1_numbered PP (v / 36) < PP.length ∧ pgd PP (F_X1_numbered PP (v / 36)) = l.2.2 ∧ 0 ≤ (v / 36).toInt ∧ (v / 36).toInt < PP.length := by
  obtain ⟨h1, h2, i, h3, h4, h5⟩ := h
  have hv : 0 ≤ v.toInt := by omega
  have e36 : (F_J9_floorMod_7cf53_36 v).toInt = 6 * l.1 + l.2.1 := by rw [fm36 hv]; omega
  have ei : (v / 36).toInt = i := by rw [dvI hv (by rw [i36]; decide), i36]; omega
  refine ⟨qI_eq (by omega) ?_, qI_eq (by omega) ?_, ?_, ?_, by omega, by omega⟩
  · rw [dvI (by omega) (by rw [i6]; decide), i6, e36]; omega
  · rw [fm6 hv]; omega
  · rw [num_in (by omega) (by omega) hb, ix_toNat, ei]; exact h3
  · rw [num_in (by omega) (by omega) hb, ix_toNat, ei, h5]; rfl
theorem has_k {cn : Int32} {k : Nat} (hk : (k : Int) < cn.toInt) : F_X5_has cn (nI k) = 1 := by
  have hl := Int32.toInt_lt cn
  unfold F_X5_has
  rw [if_neg (by rw [Int32.lt_iff_toInt_lt, nI_toInt (by omega), i0]; omega), if_neg (by rw [Int32.le_iff_toInt_le, nI_toInt (by omega)]; omega)]
theorem SIM.letter {PP : List PG} {mp pk : Nat → Int32} {cn : Int32} {M : MP} {lt : List LT} (h : SIM PP mp pk cn M lt) {k : Nat} {l : LT} (hl : lt[k]? = some l) :
    F_X5_senderOf pk cn (nI k) = nI l.1 ∧ F_X5_receiverOf pk cn (nI k) = nI l.2.1 ∧ F_X5_pageOf pk cn (nI k) = pk k / 36 ∧ pgd PP (F_X8_pageOfLetter PP pk cn (nI k)) = l.2.2 ∧ LTR PP (pk k) l := by
  obtain ⟨⟨p1, p2, p3⟩, hm, hM, hc, hL⟩ := h
  have hk : k < lt.length := (List.getElem?_eq_some_iff.mp hl).1
  have hcl := Int32.toInt_lt cn
  have hh := has_k (cn := cn) (k := k) (by omega)
  have hr := hL k l hl
  obtain ⟨s1, s2, s3, s4, -⟩ := hr.send p2
  have e1 : ix (nI k) = k := qI_ix (by omega)
  have ep : F_X5_pageOf pk cn (nI k) = pk k / 36 := by
    unfold F_X5_pageOf
    rw [hh, if_neg (by decide), e1]
  refine ⟨?_, ?_, ep, ?_, hr⟩
  · unfold F_X5_senderOf
    rw [hh, if_neg (by decide), e1]; exact s1
  · unfold F_X5_receiverOf
    rw [hh, if_neg (by decide), e1]; exact s2
  · unfold F_X8_pageOfLetter
    rw [ep]; exact s4
