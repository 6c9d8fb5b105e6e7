/-! LETTERS ARE PUT -/
theorem cpy_in {f g : Nat → Int32} {n j : Nat} (h : j < n) : va_cpy f g 0 0 n j = f j := by
  unfold va_cpy
  rw [if_pos (by omega)]
  congr 1
  omega
theorem cpy_out {f g : Nat → Int32} {n j : Nat} (h : n ≤ j) : va_cpy f g 0 0 n j = g j := by
  unfold va_cpy
  rw [if_neg (by omega)]
theorem copyOf_eq (pk : Nat → Int32) (cap : Nat) (a : Int32) : (F_J7_copyOf_59c91 pk cap a).1 = ix a ∧ (F_J7_copyOf_59c91 pk cap a).2.1 = va_cpy pk (fun _ => 0) 0 0 (ix (inI (nI cap) a)) ∧ (F_J7_copyOf_59c91 pk cap a).2.2.1 = 1 ∧ (F_J7_copyOf_59c91 pk cap a).2.2.2 = ix a := by
  refine ⟨rfl, rfl, ?_, ?_⟩
  · first | rfl | (unfold F_J7_copyOf_59c91; simp)
  · first | rfl | (unfold F_J7_copyOf_59c91; simp)
/-- what an array may hold -/
def LC (cap : Nat) (cn : Int32) : Prop := 0 ≤ cn.toInt ∧ cn.toInt ≤ cap ∧ 64 ≤ cap ∧ cap ≤ 2000000
theorem put_spec {PP : List PG} {mp pk : Nat → Int32} {cap : Nat} {cn : Int32} (sn : Int32) {M : MP} {lt : List LT} (h : SIM PP mp pk cn M lt) (hc : LC cap cn) (hlt : lt.length < 900000) {s r : Nat} (hs : s < 6) (hr : r < 6) {ip : Int32} (hi0 : 0 ≤ ip.toInt) (hi1 : ip.toInt < PP.length) :
    ∃ cap' pk' cn' c sl, F_X5_put pk cap cn sn (nI s) (nI r) ip = (cap', pk', cn', sn + 1, c, sl) ∧ SIM PP mp pk' cn' M (lt ++ [(s, r, pgd PP (ix ip))]) ∧ LC cap' cn' ∧ cap ≤ cap' ∧ cap' ≤ max cap (2 * lt.length) ∧ sl + 2 * cap ≤ 2 * cap' ∧ 64 * c + cap ≤ cap' := by
  obtain ⟨⟨p1, p2, p3⟩, hm, hM, hcn, hL⟩ := h
  obtain ⟨c1, c2, c3, c4⟩ := hc
  have ev : (((ip * 36) + (nI s * 6)) + nI r).toInt = ip.toInt * 36 + s * 6 + r := by
    have a1 : (ip * 36).toInt = ip.toInt * 36 := mulR (a := ip) (b := 36) (k := 36) (by decide +kernel) (by omega) (by omega)
    have a2 : (nI s * 6).toInt = (nI s).toInt * 6 := mulR (a := nI s) (b := 6) (k := 6) (by decide +kernel) (by rw [nI_toInt (by omega)]; omega) (by rw [nI_toInt (by omega)]; omega)
    rw [nI_toInt (by omega)] at a2
    have a3 : (ip * 36 + nI s * 6).toInt = (ip * 36).toInt + (nI s * 6).toInt := addI (by omega) (by omega)
    have a4 : (nI r).toInt = r := nI_toInt (by omega)
    have a5 : ((ip * 36 + nI s * 6) + nI r).toInt = (ip * 36 + nI s * 6).toInt + (nI r).toInt := addI (by omega) (by omega)
    omega
  have en : (cn + 1).toInt = cn.toInt + 1 := by rw [addI (by rw [i1]; omega) (by rw [i1]; omega), i1]
  have eix : ix cn = lt.length := by rw [ix_toNat, hcn]; rfl
  -- the new contents
  have key : ∀ f : Nat → Int32, (∀ j : Nat, j < lt.length → f j = pk j) → SIM PP mp (upd f (ix cn) (((ip * 36) + (nI s * 6)) + nI r)) (cn + 1) M (lt ++ [(s, r, pgd PP (ix ip))]) := by
    intro f hf
    refine ⟨⟨p1, p2, p3⟩, hm, hM, by rw [en, hcn, List.length_append]; rfl, fun k l hl => ?_⟩
    by_cases hk : k < lt.length
    · rw [List.getElem?_append_left hk] at hl
      rw [pk_un (by omega), hf k hk]
      exact hL k l hl
    · have hk2 : k = lt.length := by
        have := (List.getElem?_eq_some_iff.mp hl).1
        rw [List.length_append] at this
        simp at this
        omega
      subst hk2
      rw [List.getElem?_append_right (Nat.le_refl _), Nat.sub_self] at hl
      have hl : some (s, r, pgd PP (ix ip)) = some l := hl
      cases hl
      rw [eix, pk_us]
      refine ⟨hs, hr, ix ip, by rw [ix_toNat]; omega, ?_, rfl⟩
      rw [ev, ix_toNat]
      show ip.toInt * 36 + (s : Int) * 6 + r = 36 * (ip.toInt.toNat : Int) + 6 * (s : Int) + r
      omega
  have i1m : (1000000 : Int32).toInt = 1000000 := by decide
  unfold F_X5_put
  rw [if_pos (by rw [Int32.lt_iff_toInt_lt, i1m]; omega)]
  by_cases g : cn < nI cap
  · rw [if_pos g]
    have g2 := f_lt g
    rw [nI_toInt (by omega)] at g2
    exact ⟨cap, _, cn + 1, 0, 0, rfl, key pk (fun _ _ => rfl), ⟨by omega, by omega, c3, c4⟩, Nat.le_refl _, Nat.le_max_left _ _, by omega, by omega⟩
  · rw [if_neg g]
    have g2 := f_nlt g
    rw [nI_toInt (by omega)] at g2
    have e2 : (2 * cn).toInt = 2 * cn.toInt := mulL (a := 2) (b := cn) (k := 2) (by decide +kernel) (by omega) (by omega)
    obtain ⟨k1, k2, k3, k4⟩ := copyOf_eq pk cap (2 * cn)
    have ei : ix (2 * cn) = 2 * lt.length := by rw [ix_toNat, e2, hcn]; omega
    have em : ix (inI (nI cap) (2 * cn)) = cap := by
      have r := inI_r (nI cap) (2 * cn)
      rw [nI_toInt (by omega)] at r
      rw [ix_toNat]
      omega
    rw [k1, k2, k3, k4, ei, em]
    refine ⟨2 * lt.length, _, cn + 1, _, _, rfl, key _ (fun j hj => cpy_in (by omega)), ⟨by omega, by omega, by omega, by omega⟩, by omega, Nat.le_max_right _ _, by omega, by omega⟩
/-- what a survey's letters cost: slots by twice the room, cells by a 64th -/
theorem send_spec {PP : List PG} {mp : Nat → Int32} {M : MP} (ds cs : Nat → Int32) {n s : Nat} (hn : n ≤ 6) (hs : s < 6) {ip : Int32} (hi0 : 0 ≤ ip.toInt) (hi1 : ip.toInt < PP.length) (ex : Nat) (exI : Int32) (hex : ∀ o : Nat, o < 6 → (nI o = exI ↔ o = ex)) :
    ∀ (k x : Nat) (pk : Nat → Int32) (cap : Nat) (cn sn : Int32) (lt : List LT) (nc ns : Nat), x ≤ n → n < x + k → SIM PP mp pk cn M lt → LC cap cn → lt.length + (n - x) < 900000 →
    ∃ cap' pk' cn' sn' c sl, L_X8_sendToNeighbours_3 ds cs (nI n) (nI s) ip exI k (nI x) cn sn cap pk nc ns = (nI n, cn', sn', cap', pk', nc + c, ns + sl) ∧
      SIM PP mp pk' cn' M (lt ++ (((List.range n).drop x).filter (fun o => decide (o ≠ ex) && nbF ds cs n s o)).map (fun o => (s, o, pgd PP (ix ip)))) ∧ LC cap' cn' ∧ cap ≤ cap' ∧ cap' ≤ max cap (2 * (lt.length + (n - x))) ∧ sl + 2 * cap ≤ 2 * cap' ∧ 64 * c + cap ≤ cap' := by
  intro k
  induction k with
  | zero => intro x pk cap cn sn lt nc ns hx hk; omega
  | succ k ih =>
    intro x pk cap cn sn lt nc ns hx hk h hc hl
    show ∃ cap' pk' cn' sn' c sl, B_X8_sendToNeighbours_3 ds cs (nI n) (nI s) ip exI (L_X8_sendToNeighbours_3 ds cs (nI n) (nI s) ip exI k) (nI x) cn sn cap pk nc ns = (nI n, cn', sn', cap', pk', nc + c, ns + sl) ∧ _
    unfold B_X8_sendToNeighbours_3
    by_cases c1 : n ≤ x
    · have e : x = n := by omega
      subst e
      rw [if_pos ((qI_le (by omega) (by omega)).mpr (Nat.le_refl _)), List.drop_eq_nil_of_le (by rw [List.length_range]; exact Nat.le_refl _)]
      exact ⟨cap, pk, cn, sn, 0, 0, rfl, by simpa using h, hc, Nat.le_refl _, Nat.le_max_left _ _, by omega, by omega⟩
    · rw [if_neg (by rw [qI_le (by omega) (by omega)]; omega)]
      have hd : (List.range n).drop x = x :: (List.range n).drop (x + 1) := by
        rw [List.drop_eq_getElem_cons (by rw [List.length_range]; omega)]
        simp
      rw [hd, qI_succ (by omega)]
      by_cases c2 : x = ex
      · rw [if_pos ((hex x (by omega)).mpr c2), List.filter_cons_of_neg (by simp [c2])]
        obtain ⟨cap2, pk2, cn2, sn2, d2, sl2, e2, h2, r1, r2, r3, r4, r5⟩ := ih (x + 1) pk cap cn sn lt nc ns (by omega) (by omega) h hc (by omega)
        exact ⟨cap2, pk2, cn2, sn2, d2, sl2, e2, h2, r1, r2, by omega, r4, r5⟩
      · rw [if_neg (fun z => c2 ((hex x (by omega)).mp z)), nei_nI hn hs (by omega)]
        by_cases c3 : nbF ds cs n s x = true
        · rw [if_pos c3, if_neg (by decide), List.filter_cons_of_pos (by simp [c2, c3]), List.map_cons]
          obtain ⟨cap1, pk1, cn1, d1, sl1, e1, h1, q1, q2, q3, q4, q5⟩ := put_spec sn h hc (by omega) hs (show x < 6 by omega) hi0 hi1
          rw [e1]
          have hlen : (lt ++ [(s, x, pgd PP (ix ip))]).length = lt.length + 1 := by rw [List.length_append]; rfl
          obtain ⟨cap2, pk2, cn2, sn2, d2, sl2, e2, h2, r1, r2, r3, r4, r5⟩ := ih (x + 1) pk1 cap1 cn1 (sn + 1) (lt ++ [(s, x, pgd PP (ix ip))]) ((nc + 0) + d1) ((ns + 0) + sl1) (by omega) (by omega) h1 q1 (by omega)
          rw [List.append_assoc] at h2
          rw [hlen] at r3
          refine ⟨cap2, pk2, cn2, sn2, d1 + d2, sl1 + sl2, ?_, h2, r1, by omega, by omega, by omega, by omega⟩
          rw [show K_X8_sendToNeighbours_36 (nI x) cn sn cap pk nc ns (L_X8_sendToNeighbours_3 ds cs (nI n) (nI s) ip exI k) (cap1, pk1, cn1, sn + 1, d1, sl1) = L_X8_sendToNeighbours_3 ds cs (nI n) (nI s) ip exI k (nI x + 1) cn1 (sn + 1) cap1 pk1 ((nc + 0) + d1) ((ns + 0) + sl1) from rfl, qI_succ (by omega), e2]
          simp only [Nat.add_zero, Nat.add_assoc]
        · rw [if_neg c3, if_pos rfl, List.filter_cons_of_neg (by simp [c3])]
          obtain ⟨cap2, pk2, cn2, sn2, d2, sl2, e2, h2, r1, r2, r3, r4, r5⟩ := ih (x + 1) pk cap cn sn lt (nc + 0) (ns + 0) (by omega) (by omega) h hc (by omega)
          exact ⟨cap2, pk2, cn2, sn2, d2, sl2, e2, h2, r1, r2, by omega, r4, r5⟩
theorem sendTo_spec {PP : List PG} {mp pk : Nat → Int32} {cap : Nat} {cn : Int32} (sn : Int32) {M : MP} {lt : List LT} (ds cs : Nat → Int32) {n s : Nat} (hn : n ≤ 6) (hs : s < 6) {ip : Int32} (hi0 : 0 ≤ ip.toInt) (hi1 : ip.toInt < PP.length) (ex : Nat) (exI : Int32) (hex : ∀ o : Nat, o < 6 → (nI o = exI ↔ o = ex)) (h : SIM PP mp pk cn M lt) (hc : LC cap cn) (hl : lt.length + 6 < 900000) :
    ∃ cap' pk' cn' sn' c sl, F_X8_sendToNeighbours ds cs pk cap cn sn (nI n) (nI s) ip exI = (cap', pk', cn', sn', c, sl) ∧ SIM PP mp pk' cn' M (lt ++ msl (nbF ds cs n) n s (pgd PP (ix ip)) ex) ∧ LC cap' cn' ∧ cap ≤ cap' ∧ cap' ≤ max cap (2 * (lt.length + 6)) ∧ sl + 2 * cap ≤ 2 * cap' ∧ 64 * c + cap ≤ cap' := by
  obtain ⟨cap', pk', cn', sn', c, sl, e, h2, r1, r2, r3, r4, r5⟩ := send_spec ds cs hn hs hi0 hi1 ex exI hex ((((nI n) : Int32).toInt - (0 : Int32).toInt).toNat + 1) 0 pk cap cn sn lt 0 0 (Nat.zero_le _) (by rw [nI_toInt (by omega), i0]; omega) h hc (by omega)
  unfold F_X8_sendToNeighbours
  rw [show nI 0 = (0 : Int32) from rfl] at e
  rw [e]
  refine ⟨cap', pk', cn', sn', c, sl, ?_, h2, r1, r2, by omega, r4, r5⟩
  rw [show K_X8_sendToNeighbours_3 (nI n, cn', sn', cap', pk', 0 + c, 0 + sl) = (cap', pk', cn', sn', 0 + c, 0 + sl) from rfl, Nat.zero_add, Nat.zero_add]
