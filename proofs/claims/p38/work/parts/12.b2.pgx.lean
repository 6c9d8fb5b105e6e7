/-! WHAT THE PAGES AND THE COSTS KEEP -/
theorem pgd_lt {PP : List PG} {g : PG} {k : Nat} (h : k < PP.length) : pgd (PP ++ [g]) k = pgd PP k := by
  unfold pgd
  rw [List.getD_eq_getElem?_getD, List.getD_eq_getElem?_getD, List.getElem?_append_left h]
theorem pgd_at {PP : List PG} {g : PG} : pgd (PP ++ [g]) PP.length = g := by
  unfold pgd
  rw [List.getD_eq_getElem?_getD, List.getElem?_append_right (Nat.le_refl _), Nat.sub_self]
  rfl
theorem pgd_ge {PP : List PG} {k : Nat} (h : PP.length ≤ k) : pgd PP k = pg0 := by
  unfold pgd
  rw [List.getD_eq_getElem?_getD, List.getElem?_eq_none h]
  rfl
theorem z32_0 : 0 ≤ (0 : Int32).toInt := by decide
theorem z32_9 : (0 : Int32).toInt ≤ 9 := by decide
theorem csr_0 : CSR_ (fun _ => 0) := fun _ => ⟨z32_0, z32_9⟩
theorem csr_up {f : Nat → Int32} {i : Nat} {v : Int32} (h : CSR_ f) (h0 : 0 ≤ v.toInt) (h9 : v.toInt ≤ 9) : CSR_ (upd f i v) := fun j => by
  by_cases e : j = i
  · subst e
    rw [pk_us]
    exact ⟨h0, h9⟩
  · rw [pk_un e]
    exact h j
theorem csr_cpy {f g : Nat → Int32} {a b n : Nat} (h : CSR_ f) (h2 : CSR_ g) : CSR_ (va_cpy f g a b n) := fun j => by
  unfold va_cpy
  split
  · exact h _
  · exact h2 _
theorem pgx_push {PP : List PG} {o s t : Int32} {c : Nat → Int32} (h : PGX_ PP) (h0 : 0 ≤ o.toInt) (h6 : o.toInt < 6) (hs : 0 ≤ s.toInt) (hs2 : s.toInt ≤ PP.length + 1) (hc : CSR_ c) : PGX_ (PP ++ [(o, s, t, c)]) := fun k => by
  rw [List.length_append]
  rcases Nat.lt_trichotomy k PP.length with e | e | e
  · rw [pgd_lt e]
    obtain ⟨h1, h2, h3⟩ := h k
    exact ⟨h1, ⟨h2.1, by have := h2.2; simp; omega⟩, h3⟩
  · subst e
    rw [pgd_at]
    exact ⟨⟨h0, h6⟩, ⟨hs, by simp; omega⟩, hc⟩
  · rw [pgd_ge (by rw [List.length_append]; simp; omega)]
    exact ⟨⟨by decide, by decide⟩, ⟨by decide, by rw [show pg0.2.1.toInt = 0 from by decide]; omega⟩, csr_0⟩
theorem add_PP (capE : Nat) (PP : List PG) (po ps pm : Int32) (pc : Nat → Int32) (a3 : Int32) : (F_Jx4a65c_add_72be8 capE PP po ps pm pc a3).2.1 = PP ++ [(po, ps, pm, pc)] := by
  unfold F_Jx4a65c_add_72be8
  split <;> rfl
/-- what a new page tells -/
def rtold (ds cs : Nat → Int32) (n a1 : Int32) : Nat → Int32 := (L_X8_renew_7 ds cs n a1 (((n : Int32).toInt - (0 : Int32).toInt).toNat + 1) 0 (fun _ => 0) (0 + 1) (0 + 6)).2.1
theorem rtold_csr (ds cs : Nat → Int32) (n a1 : Int32) (h : CSR_ cs) : CSR_ (rtold ds cs n a1) := by
  have key : ∀ (k : Nat) (x : Int32) (f : Nat → Int32) (c s : Nat), CSR_ f → CSR_ (L_X8_renew_7 ds cs n a1 k x f c s).2.1 := by
    intro k
    induction k with
    | zero => intro x f c s hf; exact hf
    | succ k ih =>
      intro x f c s hf
      show CSR_ (B_X8_renew_7 ds cs n a1 (L_X8_renew_7 ds cs n a1 k) x f c s).2.1
      unfold B_X8_renew_7
      by_cases c1 : n ≤ x
      · rw [if_pos c1]; exact hf
      · rw [if_neg c1]
        by_cases c2 : F_X8_areNeighbours ds cs n a1 x = 0
        · rw [if_pos c2]; exact ih _ _ _ _ (csr_up hf (by decide) (by decide))
        · rw [if_neg c2]; exact ih _ _ _ _ (csr_up hf (h _).1 (h _).2)
  exact key _ _ _ _ _ csr_0
theorem renew_PP (capE : Nat) (PP : List PG) (mc : Int32) (ds cs mp pk : Nat → Int32) (cap : Nat) (cn sn n tk md a1 : Int32) : (F_X8_renew capE PP mc ds cs mp pk cap cn sn n tk md a1).2.2.2.2.2.2.2.2.1 = PP ++ [(a1, (pgd PP (F_X8_pageIn PP mp a1 a1)).2.1 + 1, tk, rtold ds cs n a1)] :=
  add_PP capE PP a1 ((pgd PP (F_X8_pageIn PP mp a1 a1)).2.1 + 1) tk (rtold ds cs n a1) (nI PP.length)
theorem renew_pgx (capE : Nat) {PP : List PG} (mc : Int32) (ds : Nat → Int32) {cs : Nat → Int32} (mp pk : Nat → Int32) (cap : Nat) (cn sn n tk md : Int32) {a1 : Int32} (h : PGX_ PP) (hc : CSR_ cs) (h0 : 0 ≤ a1.toInt) (h6 : a1.toInt < 6) (hl : PP.length ≤ 1000000) :
    PGX_ (F_X8_renew capE PP mc ds cs mp pk cap cn sn n tk md a1).2.2.2.2.2.2.2.2.1 ∧ (F_X8_renew capE PP mc ds cs mp pk cap cn sn n tk md a1).2.2.2.2.2.2.2.2.1.length = PP.length + 1 := by
  rw [renew_PP]
  have hs := (h (F_X8_pageIn PP mp a1 a1)).2.1
  have e1 : (1 : Int32).toInt = 1 := by decide
  have e : ((pgd PP (F_X8_pageIn PP mp a1 a1)).2.1 + 1).toInt = (pgd PP (F_X8_pageIn PP mp a1 a1)).2.1.toInt + (1 : Int32).toInt := addI (by omega) (by omega)
  exact ⟨pgx_push h h0 h6 (by omega) (by omega) (rtold_csr ds cs n a1 hc), by rw [List.length_append]; rfl⟩
/-- the renewing loop of a tick -/
theorem tick20_pgx (ds : Nat → Int32) {cs : Nat → Int32} {n : Int32} (tk : Int32) (hc : CSR_ cs) (hn : n.toInt ≤ 6) (B : Nat) (hB : B ≤ 999000) : ∀ (k : Nat) (x a b c d : Int32) (e f : Nat) (g h : Nat → Int32) (t : List PG) (nc ns : Nat), 0 ≤ x.toInt → PGX_ t → (t.length : Int) ≤ B + x.toInt → x.toInt ≤ 6 →
    PGX_ (L_X8_tickOnce_20 ds cs n tk k x a b c d e f g h t nc ns).2.2.2.2.2.2.2.2.2.1 ∧ (L_X8_tickOnce_20 ds cs n tk k x a b c d e f g h t nc ns).2.2.2.2.2.2.2.2.2.1.length ≤ B + 6 := by
  intro k
  induction k with
  | zero => intro x a b c d e f g h t nc ns hx ht hl hx6; exact ⟨ht, by show t.length ≤ B + 6; omega⟩
  | succ k ih =>
    intro x a b c d e f g h t nc ns hx ht hl hx6
    show PGX_ (B_X8_tickOnce_20 ds cs n tk (L_X8_tickOnce_20 ds cs n tk k) x a b c d e f g h t nc ns).2.2.2.2.2.2.2.2.2.1 ∧ (B_X8_tickOnce_20 ds cs n tk (L_X8_tickOnce_20 ds cs n tk k) x a b c d e f g h t nc ns).2.2.2.2.2.2.2.2.2.1.length ≤ B + 6
    unfold B_X8_tickOnce_20
    by_cases c1 : n ≤ x
    · rw [if_pos c1]; exact ⟨ht, by show t.length ≤ B + 6; omega⟩
    · rw [if_neg c1]
      have y := f_nle c1
      have e1 : (1 : Int32).toInt = 1 := by decide
      have ex : (x + 1).toInt = x.toInt + (1 : Int32).toInt := addI (by omega) (by omega)
      unfold K_X8_tickOnce_39 K_X8_tickOnce_42
      by_cases c2 : F_X8_ageOf (tk + 1) (pgd t (F_X8_pageIn t (F_X8_forget t g n (tk + 1) x 20) x x)).2.2.1 < 10
      · rw [if_pos c2]; exact ih _ _ _ _ _ _ _ _ _ _ _ _ (by omega) ht (by omega) (by omega)
      · rw [if_neg c2]
        have r := renew_pgx e a ds (F_X8_forget t g n (tk + 1) x 20) h f b c n (tk + 1) d ht hc hx (by omega) (by omega)
        generalize F_X8_renew e t a ds cs (F_X8_forget t g n (tk + 1) x 20) h f b c n (tk + 1) d x = y9 at r ⊢
        obtain ⟨z0, z1, z2, z3, z4, z5, z6, z7, z8, z9, z10⟩ := y9
        obtain ⟨r1, r2⟩ := r
        have r2 : z8.length = t.length + 1 := r2
        exact ih _ _ _ _ _ _ _ _ _ _ _ _ (by omega) r1 (by omega) (by omega)
theorem tick_pgx (capE : Nat) {PP : List PG} (mc : Int32) (ds : Nat → Int32) {cs : Nat → Int32} (mp pk : Nat → Int32) (cap : Nat) (cn sn : Int32) {n : Int32} (tk av lo md : Int32) (h : PGX_ PP) (hc : CSR_ cs) (hn : n.toInt ≤ 6) (hl : PP.length ≤ 999000) :
    PGX_ (F_X8_tickOnce capE PP mc ds cs mp pk cap cn sn n tk av lo md).2.2.2.2.2.2.2.2.2.2.2.1 ∧ (F_X8_tickOnce capE PP mc ds cs mp pk cap cn sn n tk av lo md).2.2.2.2.2.2.2.2.2.2.2.1.length ≤ PP.length + 6 := by
  have r := tick20_pgx ds tk hc hn PP.length hl (((n : Int32).toInt - (0 : Int32).toInt).toNat + 1) 0 mc cn sn md capE cap mp pk PP 0 0 (by decide) h (by rw [show (0 : Int32).toInt = 0 from by decide]; omega) (by decide)
  unfold F_X8_tickOnce
  generalize L_X8_tickOnce_20 ds cs n tk (((n : Int32).toInt - (0 : Int32).toInt).toNat + 1) 0 mc cn sn md capE cap mp pk PP 0 0 = y at r ⊢
  obtain ⟨z0, z1, z2, z3, z4, z5, z6, z7, z8, z9, z10, z11⟩ := y
  obtain ⟨r1, r2⟩ := r
  have r1 : PGX_ z9 := r1
  have r2 : z9.length ≤ PP.length + 6 := r2
  rw [show K_X8_tickOnce_20 ds cs cn n tk av lo (z0, z1, z2, z3, z4, z5, z6, z7, z8, z9, z10, z11) = K_X8_tickOnce_63 cn tk z1 z4 z5 z9 (L_X8_tickOnce_63 ds cs cn n z9 (((cn : Int32).toInt - (0 : Int32).toInt).toNat + 1) 0 z2 z3 av lo z6 z7 z8 z10 z11) from rfl]
  generalize L_X8_tickOnce_63 ds cs cn n z9 (((cn : Int32).toInt - (0 : Int32).toInt).toNat + 1) 0 z2 z3 av lo z6 z7 z8 z10 z11 = w
  obtain ⟨w0, w1, w2, w3, w4, w5, w6, w7, w8, w9⟩ := w
  exact ⟨r1, r2⟩
theorem setc_csr {cs : Nat → Int32} {i j : Nat} {v : Int32} (h : CSR_ cs) (h0 : 0 ≤ v.toInt) (h9 : v.toInt ≤ 9) : CSR_ (upd (upd cs i v) j v) := csr_up (csr_up h h0 h9) h0 h9
theorem setCanal_pgx (capE : Nat) {PP : List PG} (mc : Int32) (ds : Nat → Int32) {cs : Nat → Int32} (mp pk : Nat → Int32) (cap : Nat) (cn sn : Int32) {n : Int32} (tk md : Int32) {a b v : Int32} (h : PGX_ PP) (hc : CSR_ cs) (hl : PP.length ≤ 999000) (ha : 0 ≤ a.toInt ∧ a.toInt < 6) (hb : 0 ≤ b.toInt ∧ b.toInt < 6) (h0 : 0 ≤ v.toInt) (h9 : v.toInt ≤ 9) :
    PGX_ (F_X8_setCanal capE PP mc ds cs mp pk cap cn sn n tk md a b v).2.2.2.2.2.2.2.2.2.2.1 ∧ CSR_ (F_X8_setCanal capE PP mc ds cs mp pk cap cn sn n tk md a b v).2.2.2.1 ∧ (F_X8_setCanal capE PP mc ds cs mp pk cap cn sn n tk md a b v).2.2.2.2.2.2.2.2.2.2.1.length ≤ PP.length + 600 := by
  have hc2 := setc_csr (i := ix (F_X8_pair a b)) (j := ix (F_X8_pair b a)) hc h0 h9
  have hi := inI_r a b
  have hx := axI_r a b
  unfold F_X8_setCanal
  by_cases c : F_X8_districtOf ds n a = F_X8_districtOf ds n b
  · rw [if_pos c]
    have r := renew_pgx capE mc ds mp pk cap cn sn n tk md (a1 := inI a b) h hc2 (by omega) (by omega) (by omega)
    generalize F_X8_renew capE PP mc ds (upd (upd cs (ix (F_X8_pair a b)) v) (ix (F_X8_pair b a)) v) mp pk cap cn sn n tk md (inI a b) = y at r ⊢
    obtain ⟨z0, z1, z2, z3, z4, z5, z6, z7, z8, z9, z10⟩ := y
    obtain ⟨r1, r3⟩ := r
    have r1 : PGX_ z8 := r1
    have r3 : z8.length = PP.length + 1 := r3
    rw [show K_X8_setCanal_49 ds cs n tk a b v (z0, z1, z2, z3, z4, z5, z6, z7, z8, z9, z10) = K_X8_setCanal_58 cs a b v z9 z10 (F_X8_renew z0 z8 z1 ds (upd (upd cs (ix (F_X8_pair a b)) v) (ix (F_X8_pair b a)) v) z2 z4 z3 z5 z6 n tk z7 (axI a b)) from rfl]
    have r2 := renew_pgx z0 z1 ds z2 z4 z3 z5 z6 n tk z7 (a1 := axI a b) r1 hc2 (by omega) (by omega) (by omega)
    generalize F_X8_renew z0 z8 z1 ds (upd (upd cs (ix (F_X8_pair a b)) v) (ix (F_X8_pair b a)) v) z2 z4 z3 z5 z6 n tk z7 (axI a b) = w at r2 ⊢
    obtain ⟨w0, w1, w2, w3, w4, w5, w6, w7, w8, w9, w10⟩ := w
    obtain ⟨r4, r5⟩ := r2
    have r5 : w8.length = z8.length + 1 := r5
    exact ⟨r4, hc2, by show w8.length ≤ PP.length + 600; omega⟩
  · rw [if_neg c]; exact ⟨h, hc2, Nat.le_add_right _ _⟩
theorem add_pgx (capE : Nat) {PP : List PG} (mc : Int32) (ds : Nat → Int32) {cs : Nat → Int32} (mp pk : Nat → Int32) (cap : Nat) (cn sn : Int32) {n : Int32} (tk md : Int32) (h : PGX_ PP) (hc : CSR_ cs) (hl : PP.length ≤ 999000) (h0 : 0 ≤ n.toInt) (h6 : n.toInt < 6) :
    PGX_ (F_X8_addSurveyor capE PP mc ds cs mp pk cap cn sn n tk md).2.2.2.2.2.2.2.2.2.2.1 ∧ (F_X8_addSurveyor capE PP mc ds cs mp pk cap cn sn n tk md).2.2.2.2.2.2.2.2.2.2.1.length ≤ PP.length + 600 ∧ (F_X8_addSurveyor capE PP mc ds cs mp pk cap cn sn n tk md).2.2.2.2.2.2.2.2.1.toInt = n.toInt + 1 := by
  unfold F_X8_addSurveyor
  have r := renew_pgx capE mc ds mp pk cap cn sn (n + 1) tk md h hc h0 h6 (by omega)
  generalize F_X8_renew capE PP mc ds cs mp pk cap cn sn (n + 1) tk md n = y at r ⊢
  obtain ⟨z0, z1, z2, z3, z4, z5, z6, z7, z8, z9, z10⟩ := y
  obtain ⟨r1, r2⟩ := r
  have r2 : z8.length = PP.length + 1 := r2
  have e1 : (1 : Int32).toInt = 1 := by decide
  have en : (n + 1).toInt = n.toInt + (1 : Int32).toInt := addI (by omega) (by omega)
  exact ⟨r1, by show z8.length ≤ PP.length + 600; omega, by show (n + 1).toInt = n.toInt + 1; omega⟩
theorem move49_pgx (ds : Nat → Int32) {cs : Nat → Int32} {n : Int32} (tk a1 a2 : Int32) (hc : CSR_ cs) (hn : n.toInt ≤ 6) (B : Nat) (hB : B ≤ 999000) : ∀ (k : Nat) (x a b c d : Int32) (e f : Nat) (g h : Nat → Int32) (t : List PG) (nc ns : Nat), 0 ≤ x.toInt → PGX_ t → (t.length : Int) ≤ B + x.toInt → x.toInt ≤ 6 →
    PGX_ (L_X8_moveTo_49 ds cs n tk a1 a2 k x a b c d e f g h t nc ns).2.2.2.2.2.2.2.2.2.1 ∧ (L_X8_moveTo_49 ds cs n tk a1 a2 k x a b c d e f g h t nc ns).2.2.2.2.2.2.2.2.2.1.length ≤ B + 6 := by
  intro k
  induction k with
  | zero => intro x a b c d e f g h t nc ns hx ht hl hx6; exact ⟨ht, by show t.length ≤ B + 6; omega⟩
  | succ k ih =>
    intro x a b c d e f g h t nc ns hx ht hl hx6
    show PGX_ (B_X8_moveTo_49 ds cs n tk a1 a2 (L_X8_moveTo_49 ds cs n tk a1 a2 k) x a b c d e f g h t nc ns).2.2.2.2.2.2.2.2.2.1 ∧ (B_X8_moveTo_49 ds cs n tk a1 a2 (L_X8_moveTo_49 ds cs n tk a1 a2 k) x a b c d e f g h t nc ns).2.2.2.2.2.2.2.2.2.1.length ≤ B + 6
    unfold B_X8_moveTo_49
    by_cases c1 : n ≤ x
    · rw [if_pos c1]; exact ⟨ht, by show t.length ≤ B + 6; omega⟩
    · rw [if_neg c1]
      have y := f_nle c1
      have e1 : (1 : Int32).toInt = 1 := by decide
      have ex : (x + 1).toInt = x.toInt + (1 : Int32).toInt := addI (by omega) (by omega)
      have r := renew_pgx e a (upd ds (ix a1) a2) g h f b c n tk d (a1 := x) ht hc hx (by omega) (by omega)
      generalize F_X8_renew e t a (upd ds (ix a1) a2) cs g h f b c n tk d x = y9 at r ⊢
      obtain ⟨z0, z1, z2, z3, z4, z5, z6, z7, z8, z9, z10⟩ := y9
      obtain ⟨r1, r2⟩ := r
      have r2 : z8.length = t.length + 1 := r2
      by_cases c2 : x = a1
      · rw [if_pos c2]; exact ih _ _ _ _ _ _ _ _ _ _ _ _ (by omega) r1 (by omega) (by omega)
      · rw [if_neg c2]
        by_cases c3 : F_X8_costBetween cs a1 x ≤ 0
        · rw [if_pos c3]; exact ih _ _ _ _ _ _ _ _ _ _ _ _ (by omega) ht (by omega) (by omega)
        · rw [if_neg c3]; exact ih _ _ _ _ _ _ _ _ _ _ _ _ (by omega) r1 (by omega) (by omega)
theorem move_pgx (capE : Nat) {PP : List PG} (mc : Int32) (ds : Nat → Int32) {cs : Nat → Int32} (mp pk : Nat → Int32) (cap : Nat) (cn sn : Int32) {n : Int32} (tk lo md a1 a2 : Int32) (h : PGX_ PP) (hc : CSR_ cs) (hl : PP.length ≤ 999000) (hn : n.toInt ≤ 6) :
    PGX_ (F_X8_moveTo capE PP mc ds cs mp pk cap cn sn n tk lo md a1 a2).2.2.2.2.2.2.2.2.2.2.2.1 ∧ (F_X8_moveTo capE PP mc ds cs mp pk cap cn sn n tk lo md a1 a2).2.2.2.2.2.2.2.2.2.2.2.1.length ≤ PP.length + 600 := by
  unfold F_X8_moveTo
  by_cases c : F_X8_has n a1 = 0
  · rw [if_pos c]; exact ⟨h, Nat.le_add_right _ _⟩
  · rw [if_neg c]
    generalize F_X5_removeOf pk cn a1 = y
    obtain ⟨z0, z1, z2⟩ := y
    have r := move49_pgx ds (tk := tk) (a1 := a1) (a2 := a2) hc hn PP.length hl (((n : Int32).toInt - (0 : Int32).toInt).toNat + 1) 0 mc z2 sn md capE cap (F_X8_forget PP mp n tk a1 0) z1 PP ((((0 + 0) + 0) + 0) + 0) ((((0 + 0) + 0) + 0) + 0) (by decide) h (by rw [show (0 : Int32).toInt = 0 from by decide]; omega) (by decide)
    rw [show K_X8_moveTo_33 capE PP mc ds cs mp cap sn n tk lo md a1 a2 (z0, z1, z2) = K_X8_moveTo_49 ds n lo a1 a2 z0 (L_X8_moveTo_49 ds cs n tk a1 a2 (((n : Int32).toInt - (0 : Int32).toInt).toNat + 1) 0 mc z2 sn md capE cap (F_X8_forget PP mp n tk a1 0) z1 PP ((((0 + 0) + 0) + 0) + 0) ((((0 + 0) + 0) + 0) + 0)) from rfl]
    generalize L_X8_moveTo_49 ds cs n tk a1 a2 (((n : Int32).toInt - (0 : Int32).toInt).toNat + 1) 0 mc z2 sn md capE cap (F_X8_forget PP mp n tk a1 0) z1 PP ((((0 + 0) + 0) + 0) + 0) ((((0 + 0) + 0) + 0) + 0) = w at r ⊢
    obtain ⟨w0, w1, w2, w3, w4, w5, w6, w7, w8, w9, w10, w11⟩ := w
    exact ⟨r.1, Nat.le_trans r.2 (by omega)⟩
/-- the ticks of a pass -/
theorem carry81_pgx (ds : Nat → Int32) {cs : Nat → Int32} {n : Int32} (a2 : Int32) (hc : CSR_ cs) (hn : n.toInt ≤ 6) (B : Nat) (hB : B ≤ 998000) : ∀ (k : Nat) (x a b c d e f g : Int32) (i j : Nat) (p q : Nat → Int32) (t : List PG) (nc ns : Nat), 0 ≤ x.toInt → PGX_ t → (t.length : Int) ≤ B + 6 * x.toInt → x.toInt ≤ 99 →
    PGX_ (L_X8_carryOut_81 ds cs n a2 k x a b c d e f g i j p q t nc ns).2.2.2.2.2.2.2.2.2.2.2.2.1 ∧ (L_X8_carryOut_81 ds cs n a2 k x a b c d e f g i j p q t nc ns).2.2.2.2.2.2.2.2.2.2.2.2.1.length ≤ B + 600 := by
  intro k
  induction k with
  | zero => intro x a b c d e f g i j p q t nc ns hx ht hl hx9; exact ⟨ht, by show t.length ≤ B + 600; omega⟩
  | succ k ih =>
    intro x a b c d e f g i j p q t nc ns hx ht hl hx9
    show PGX_ (B_X8_carryOut_81 ds cs n a2 (L_X8_carryOut_81 ds cs n a2 k) x a b c d e f g i j p q t nc ns).2.2.2.2.2.2.2.2.2.2.2.2.1 ∧ (B_X8_carryOut_81 ds cs n a2 (L_X8_carryOut_81 ds cs n a2 k) x a b c d e f g i j p q t nc ns).2.2.2.2.2.2.2.2.2.2.2.2.1.length ≤ B + 600
    unfold B_X8_carryOut_81
    by_cases c1 : a2 ≤ x
    · rw [if_pos c1]; exact ⟨ht, by show t.length ≤ B + 600; omega⟩
    · rw [if_neg c1]
      by_cases c2 : 99 ≤ x
      · rw [if_pos c2]; exact ⟨ht, by show t.length ≤ B + 600; omega⟩
      · rw [if_neg c2]
        have y := f_nle c2
        rw [show (99 : Int32).toInt = 99 from by decide] at y
        have e1 : (1 : Int32).toInt = 1 := by decide
        have ex : (x + 1).toInt = x.toInt + (1 : Int32).toInt := addI (by omega) (by omega)
        have r := tick_pgx i a ds p q j b c d e f g ht hc hn (by omega)
        generalize F_X8_tickOnce i t a ds cs p q j b c n d e f g = y9 at r ⊢
        obtain ⟨z0, z1, z2, z3, z4, z5, z6, z7, z8, z9, z10, z11, z12, z13⟩ := y9
        obtain ⟨r1, r2⟩ := r
        have r2 : z11.length ≤ t.length + 6 := r2
        exact ih _ _ _ _ _ _ _ _ _ _ _ _ _ _ _ (by omega) r1 (by omega) (by omega)
theorem pass_pgx (capE : Nat) {PP : List PG} (mc : Int32) (ds : Nat → Int32) {cs : Nat → Int32} (mp pk : Nat → Int32) (cap : Nat) (cn sn : Int32) {n : Int32} (tk av lo md a2 : Int32) (h : PGX_ PP) (hc : CSR_ cs) (hl : PP.length ≤ 998000) (hn : n.toInt ≤ 6) :
    PGX_ (F_X8_carryOut_ad5 capE PP mc ds cs mp pk cap cn sn n tk av lo md a2).2.2.2.2.2.2.2.2.2.2.2.2.1 ∧ (F_X8_carryOut_ad5 capE PP mc ds cs mp pk cap cn sn n tk av lo md a2).2.2.2.2.2.2.2.2.2.2.2.2.1.length ≤ PP.length + 600 := by
  unfold F_X8_carryOut_ad5
  have r := carry81_pgx ds (a2 := a2) hc hn PP.length hl (((a2 : Int32).toInt - (0 : Int32).toInt).toNat + 1) 0 mc cn sn tk av lo md capE cap mp pk PP (0 + 0) (0 + 0) (by decide) h (by rw [show (0 : Int32).toInt = 0 from by decide]; omega) (by decide)
  generalize L_X8_carryOut_81 ds cs n a2 (((a2 : Int32).toInt - (0 : Int32).toInt).toNat + 1) 0 mc cn sn tk av lo md capE cap mp pk PP (0 + 0) (0 + 0) = w at r ⊢
  obtain ⟨w0, w1, w2, w3, w4, w5, w6, w7, w8, w9, w10, w11, w12, w13, w14⟩ := w
  exact r

theorem settle28_pgx (c0 : Nat → Int32) {c1 : Nat → Int32} {n : Int32} (hc : CSR_ c1) (hn : n.toInt ≤ 6) (B : Nat) (hB : B ≤ 990000) : ∀ (k : Nat) (x a b c d e f g : Int32) (i j : Nat) (p q : Nat → Int32) (t : List PG) (nc ns : Nat), 1 ≤ x.toInt → PGX_ t → (t.length : Int) ≤ B + 6 * x.toInt → x.toInt ≤ 100 →
    PGX_ (K_X10_settledIn_28 c0 c1 n (L_X10_settledIn_28 c0 c1 n k x a b c d e f g i j p q t nc ns)).2.2.2.2.2.2.2.2.2.2.2.2.2.2.2.2.1 ∧ CSR_ (K_X10_settledIn_28 c0 c1 n (L_X10_settledIn_28 c0 c1 n k x a b c d e f g i j p q t nc ns)).2.2.2.2.2.1 := by
  intro k
  induction k with
  | zero => intro x a b c d e f g i j p q t nc ns hx ht hl hx9; exact ⟨ht, hc⟩
  | succ k ih =>
    intro x a b c d e f g i j p q t nc ns hx ht hl hx9
    show PGX_ (K_X10_settledIn_28 c0 c1 n (B_X10_settledIn_28 c0 c1 n (L_X10_settledIn_28 c0 c1 n k) x a b c d e f g i j p q t nc ns)).2.2.2.2.2.2.2.2.2.2.2.2.2.2.2.2.1 ∧ CSR_ (K_X10_settledIn_28 c0 c1 n (B_X10_settledIn_28 c0 c1 n (L_X10_settledIn_28 c0 c1 n k) x a b c d e f g i j p q t nc ns)).2.2.2.2.2.1
    unfold B_X10_settledIn_28
    by_cases c2 : 99 < x
    · rw [if_pos c2]; exact ⟨ht, hc⟩
    · rw [if_neg c2]
      have y := f_nlt c2
      rw [show (99 : Int32).toInt = 99 from by decide] at y
      have e1 : (1 : Int32).toInt = 1 := by decide
      have ex : (x + 1).toInt = x.toInt + (1 : Int32).toInt := addI (by omega) (by omega)
      have r := tick_pgx i a c0 p q j b c d e f g ht hc hn (by omega)
      generalize F_X8_tickOnce i t a c0 c1 p q j b c n d e f g = y9 at r ⊢
      obtain ⟨z0, z1, z2, z3, z4, z5, z6, z7, z8, z9, z10, z11, z12, z13⟩ := y9
      obtain ⟨r1, r2⟩ := r
      have r1 : PGX_ z11 := r1
      have r2 : z11.length ≤ t.length + 6 := r2
      unfold K_X10_settledIn_38
      by_cases c3 : z5 = 0
      · simp only [if_pos c3]
        exact ⟨r1, hc⟩
      · simp only [if_neg c3]
        exact ih _ _ _ _ _ _ _ _ _ _ _ _ _ _ _ (by omega) r1 (by omega) (by omega)
theorem copy_csr (ds : Nat → Int32) {cs : Nat → Int32} (mp pk : Nat → Int32) (cap : Nat) (ds2 : Nat → Int32) {cs2 : Nat → Int32} (mp2 pk2 : Nat → Int32) (cn2 sn2 n2 tk2 av2 lo2 md2 : Int32) (h : CSR_ cs) (h2 : CSR_ cs2) : CSR_ (F_X8_copyFrom ds cs mp pk cap ds2 cs2 mp2 pk2 cn2 sn2 n2 tk2 av2 lo2 md2).2.1 := csr_cpy (f := cs2) (g := cs) (a := 0) (b := 0) (n := 36) h2 h
theorem copy_n (ds cs mp pk : Nat → Int32) (cap : Nat) (ds2 cs2 mp2 pk2 : Nat → Int32) (cn2 sn2 n2 tk2 av2 lo2 md2 : Int32) : (F_X8_copyFrom ds cs mp pk cap ds2 cs2 mp2 pk2 cn2 sn2 n2 tk2 av2 lo2 md2).2.2.2.2.2.2.2.1 = n2 := rfl
theorem kp_settledIn (capE : Nat) (PP : List PG) (mc : Int32) (ds cs mp pk : Nat → Int32) (cn sn n tk av lo md : Int32) (ds_t cs_t mp_t pk_t : Nat → Int32) (cap_t : Nat) (cn_t sn_t n_t tk_t av_t lo_t md_t : Int32) (h : PGX_ PP) (hc : CSR_ cs) (ht : CSR_ cs_t) (hn : n.toInt ≤ 6) (hl : PP.length ≤ 980000) :
    PGX_ (F_X10_settledIn capE PP mc ds cs mp pk cn sn n tk av lo md ds_t cs_t mp_t pk_t cap_t cn_t sn_t n_t tk_t av_t lo_t md_t).2.2.2.2.2.2.2.2.2.2.2.2.2.2.2.2.1 ∧ CSR_ (F_X10_settledIn capE PP mc ds cs mp pk cn sn n tk av lo md ds_t cs_t mp_t pk_t cap_t cn_t sn_t n_t tk_t av_t lo_t md_t).2.2.2.2.2.1 := by
  unfold F_X10_settledIn
  by_cases c : cn = 0
  · rw [if_pos c]; exact ⟨h, ht⟩
  · rw [if_neg c]
    have r1 := copy_csr ds_t mp_t pk_t cap_t ds mp pk cn sn n tk av lo md ht hc
    have r2 := copy_n ds_t cs_t mp_t pk_t cap_t ds cs mp pk cn sn n tk av lo md
    generalize F_X8_copyFrom ds_t cs_t mp_t pk_t cap_t ds cs mp pk cn sn n tk av lo md = y at r1 r2 ⊢
    obtain ⟨z0, z1, z2, z3, z4, z5, z6, z7, z8, z9, z10, z11, z12, z13⟩ := y
    have r2 : z7 = n := r2
    subst r2
    exact settle28_pgx z0 (c1 := z1) r1 hn PP.length (by omega) _ 1 mc z5 z6 z8 z9 z10 z11 capE z3 z2 z4 PP (0 + z12) (0 + z13) (by decide) h (by rw [show (1 : Int32).toInt = 1 from by decide]; omega) (by decide)
