theorem ix_lt8 {x : Int32} (h0 : 0 ≤ x.toInt) (h8 : x.toInt < 8) : ix x < 8 := by
  have := ix_toNat x
  omega
theorem keep_hn (hds hcs hmp hpk : Nat → Nat → Int32) (hcap : Nat → Nat) (hcn hsn hn htk hav hlo hmd : Nat → Int32) (hla hct : Int32) (ds cs mp pk : Nat → Int32) (cn sn n tk av lo md : Int32) : (F_X4_keep hds hcs hmp hpk hcap hcn hsn hn htk hav hlo hmd hla hct ds cs mp pk cn sn n tk av lo md).2.2.2.2.2.2.2.2.2.1 = va_up hn (ix (rmI (hla + 1) 8)) n := rfl
theorem keep_hcs (hds hcs hmp hpk : Nat → Nat → Int32) (hcap : Nat → Nat) (hcn hsn hn htk hav hlo hmd : Nat → Int32) (hla hct : Int32) (ds cs mp pk : Nat → Int32) (cn sn n tk av lo md : Int32) : (F_X4_keep hds hcs hmp hpk hcap hcn hsn hn htk hav hlo hmd hla hct ds cs mp pk cn sn n tk av lo md).2.2.2.1 = va_up hcs (ix (rmI (hla + 1) 8)) (va_cpy cs (hcs (ix (rmI (hla + 1) 8))) 0 0 36) := rfl
theorem keep_k {hds hcs hmp hpk : Nat → Nat → Int32} {hcap : Nat → Nat} {hcn hsn hn htk hav hlo hmd : Nat → Int32} {hla hct : Int32} {ds cs mp pk : Nat → Int32} {cn sn n tk av lo md : Int32} (hcsr : CSR_ cs) (hn0 : 0 ≤ n.toInt) (hn6 : n.toInt ≤ 6) (hhn : ∀ j : Nat, j < 8 → 0 ≤ (hn j).toInt ∧ (hn j).toInt ≤ 6) (hhc : ∀ j : Nat, CSR_ (hcs j)) :
    (∀ j : Nat, j < 8 → 0 ≤ ((F_X4_keep hds hcs hmp hpk hcap hcn hsn hn htk hav hlo hmd hla hct ds cs mp pk cn sn n tk av lo md).2.2.2.2.2.2.2.2.2.1 j).toInt ∧ ((F_X4_keep hds hcs hmp hpk hcap hcn hsn hn htk hav hlo hmd hla hct ds cs mp pk cn sn n tk av lo md).2.2.2.2.2.2.2.2.2.1 j).toInt ≤ 6) ∧ ∀ j : Nat, CSR_ ((F_X4_keep hds hcs hmp hpk hcap hcn hsn hn htk hav hlo hmd hla hct ds cs mp pk cn sn n tk av lo md).2.2.2.1 j) := by
  rw [keep_hn, keep_hcs]
  refine ⟨fun j hj => ?_, fun j => ?_⟩
  · unfold va_up
    split
    · exact ⟨hn0, hn6⟩
    · exact hhn j hj
  · unfold va_up
    split
    · exact csr_cpy hcsr (hhc _)
    · exact hhc j
theorem has_r {n a : Int32} (h : ¬ F_X8_has n a = 0) (h6 : n.toInt ≤ 6) : 0 ≤ a.toInt ∧ a.toInt < 6 := by
  have := R_X8_has h
  omega
theorem pair_r {n a b : Int32} (h : (F_X8_againstPair n a b).1 = 0) : ¬ F_X8_has n a = 0 ∧ ¬ F_X8_has n b = 0 ∧ ¬ a = b := by
  unfold F_X8_againstPair at h
  by_cases c1 : F_X8_has n a = 0
  · rw [if_pos c1] at h; exact absurd h (by show ¬ (1 : Nat) = 0; decide)
  · rw [if_neg c1] at h
    by_cases c2 : F_X8_has n b = 0
    · rw [if_pos c2] at h; exact absurd h (by show ¬ (1 : Nat) = 0; decide)
    · rw [if_neg c2] at h
      by_cases c3 : a = b
      · rw [if_pos c3] at h; exact absurd h (by show ¬ (1 : Nat) = 0; decide)
      · exact ⟨c1, c2, c3⟩
theorem against1_r {cs : Nat → Int32} {n a b v : Int32} (h : (F_X8_against_ad1 cs n a b v).1 = 0) : (F_X8_againstPair n a b).1 = 0 ∧ 1 ≤ v.toInt ∧ v.toInt ≤ 9 ∧ ¬ F_X8_costBetween cs a b = v := by
  unfold F_X8_against_ad1 at h
  by_cases c : (F_X8_againstCanal cs n a b v).1 = 0
  · unfold F_X8_againstCanal at c
    by_cases c1 : (F_X8_againstPair n a b).1 = 0
    · rw [if_pos c1] at c
      by_cases c2 : v < 1
      · rw [if_pos c2] at c; exact absurd c (by decide)
      · rw [if_neg c2] at c
        by_cases c3 : v ≤ 9
        · rw [if_pos c3] at c
          by_cases c4 : F_X8_costBetween cs a b = v
          · rw [if_pos c4] at c; exact absurd c (by decide)
          · have y2 := f_nlt c2
            have y3 := f_le c3
            rw [show (1 : Int32).toInt = 1 from by decide] at y2
            rw [show (9 : Int32).toInt = 9 from by decide] at y3
            exact ⟨c1, y2, y3, c4⟩
        · rw [if_neg c3] at c; exact absurd c (by decide)
    · rw [if_neg c1] at c; exact absurd c (by show ¬ (1 : Nat) = 0; decide)
  · rw [if_neg c] at h; exact absurd h (by show ¬ (1 : Nat) = 0; decide)
theorem against2_r {cs : Nat → Int32} {n a b : Int32} (h : (F_X8_against_ad2 cs n a b).1 = 0) : (F_X8_againstPair n a b).1 = 0 ∧ ¬ F_X8_costBetween cs a b = 0 := by
  unfold F_X8_against_ad2 at h
  by_cases c : (F_X8_againstClosing cs n a b).1 = 0
  · unfold F_X8_againstClosing at c
    by_cases c1 : (F_X8_againstPair n a b).1 = 0
    · rw [if_pos c1] at c
      by_cases c4 : F_X8_costBetween cs a b = 0
      · rw [if_pos c4] at c; exact absurd c (by decide)
      · exact ⟨c1, c4⟩
    · rw [if_neg c1] at c; exact absurd c (by show ¬ (1 : Nat) = 0; decide)
  · rw [if_neg c] at h; exact absurd h (by show ¬ (1 : Nat) = 0; decide)
theorem against0_r {n : Int32} (h : (F_X8_against_ad0 n).1 = 0) : n.toInt < 6 := by
  unfold F_X8_against_ad0 at h
  by_cases c : 6 ≤ n
  · rw [if_pos c] at h; exact absurd h (by decide)
  · have y := f_nle c
    rw [show (6 : Int32).toInt = 6 from by decide] at y
    exact y
theorem carry0_pgx (capE : Nat) (PP : List PG) (mc : Int32) (ds : Nat → Int32) (cs : Nat → Int32) (mp : Nat → Int32) (pk : Nat → Int32) (cap : Nat) (cn : Int32) (sn : Int32) (n : Int32) (tk : Int32) (md : Int32) (hPG : PGX_ PP) (hCS : CSR_ cs) (hl : PP.length ≤ 990000) (hn0 : 0 ≤ n.toInt) (hn6 : n.toInt ≤ 6) (c : (F_X8_against_ad0 n).1 = 0) : PGX_ ((F_X8_carryOut_ad0 capE PP mc ds cs mp pk cap cn sn n tk md).2.2.2.2.2.2.2.2.2.2.1) ∧ ((F_X8_carryOut_ad0 capE PP mc ds cs mp pk cap cn sn n tk md).2.2.2.2.2.2.2.2.2.2.1).length ≤ PP.length + 600 ∧ (F_X8_carryOut_ad0 capE PP mc ds cs mp pk cap cn sn n tk md).2.2.2.2.2.2.2.2.1.toInt = n.toInt + 1 := by
  have r0 := add_pgx capE mc ds mp pk cap cn sn tk md hPG hCS (by omega) hn0 (against0_r c)
  unfold F_X8_carryOut_ad0
  generalize F_X8_addSurveyor capE PP mc ds cs mp pk cap cn sn n tk md = u at r0 ⊢
  obtain ⟨u0, u1, u2, u3, u4, u5, u6, u7, u8, u9, u10, u11, u12⟩ := u
  exact ⟨r0.1, r0.2.1, r0.2.2⟩
set_option maxHeartbeats 4000000 in
theorem kp_change0 (capE : Nat) (PP : List PG) (mc : Int32) (ds : Nat → Int32) (cs : Nat → Int32) (mp : Nat → Int32) (pk : Nat → Int32) (cap : Nat) (cn : Int32) (sn : Int32) (n : Int32) (tk : Int32) (av : Int32) (lo : Int32) (md : Int32) (hds : Nat → Nat → Int32) (hcs : Nat → Nat → Int32) (hmp : Nat → Nat → Int32) (hpk : Nat → Nat → Int32) (hcap : Nat → Nat) (hcn : Nat → Int32) (hsn : Nat → Int32) (hn : Nat → Int32) (htk : Nat → Int32) (hav : Nat → Int32) (hlo : Nat → Int32) (hmd : Nat → Int32) (hla : Int32) (hct : Int32) (hPG : PGX_ PP) (hCS : CSR_ cs) (hl : PP.length ≤ 950000) (hn0 : 0 ≤ n.toInt) (hn6 : n.toInt ≤ 6) (hhn : ∀ j : Nat, j < 8 → 0 ≤ (hn j).toInt ∧ (hn j).toInt ≤ 6) (hhc : ∀ j : Nat, CSR_ (hcs j)) (hla0 : 0 ≤ hla.toInt) (hla8 : hla.toInt < 8) : PGX_ ((F_X10_change_ad0 capE PP mc ds cs mp pk cap cn sn n tk av lo md hds hcs hmp hpk hcap hcn hsn hn htk hav hlo hmd hla hct).2.2.2.2.2.2.2.2.2.2.2.2.2.2.2.2.2.2.2.2.2.2.2.2.2.2.2.1) ∧ CSR_ cs ∧ (∀ j : Nat, j < 8 → 0 ≤ ((F_X10_change_ad0 capE PP mc ds cs mp pk cap cn sn n tk av lo md hds hcs hmp hpk hcap hcn hsn hn htk hav hlo hmd hla hct).2.2.2.2.2.2.2.2.2.2.2.2.2.2.2.2.2.2.2.2.1 j).toInt ∧ ((F_X10_change_ad0 capE PP mc ds cs mp pk cap cn sn n tk av lo md hds hcs hmp hpk hcap hcn hsn hn htk hav hlo hmd hla hct).2.2.2.2.2.2.2.2.2.2.2.2.2.2.2.2.2.2.2.2.1 j).toInt ≤ 6) ∧ ∀ j : Nat, CSR_ ((F_X10_change_ad0 capE PP mc ds cs mp pk cap cn sn n tk av lo md hds hcs hmp hpk hcap hcn hsn hn htk hav hlo hmd hla hct).2.2.2.2.2.2.2.2.2.2.2.2.2.2.1 j) := by
  have kf := keep_k (hds := hds) (hcs := hcs) (hmp := hmp) (hpk := hpk) (hcap := hcap) (hcn := hcn) (hsn := hsn) (hn := hn) (htk := htk) (hav := hav) (hlo := hlo) (hmd := hmd) (hla := hla) (hct := hct) (ds := ds) (cs := cs) (mp := mp) (pk := pk) (cn := cn) (sn := sn) (n := n) (tk := tk) (av := av) (lo := lo) (md := md) hCS hn0 hn6 hhn hhc
  unfold F_X10_change_ad0
  by_cases c : (F_X8_against_ad0 n).1 = 0
  · rw [if_pos c]
    have r := carry0_pgx capE PP mc ds cs mp pk cap cn sn n tk md hPG hCS (by omega) hn0 hn6 c
    generalize (F_X4_keep hds hcs hmp hpk hcap hcn hsn hn htk hav hlo hmd hla hct ds cs mp pk cn sn n tk av lo md) = y at kf ⊢
    obtain ⟨y0, y1, y2, y3, y4, y5, y6, y7, y8, y9, y10, y11, y12, y13, y14, y15⟩ := y
    generalize hw : (F_X8_carryOut_ad0 capE PP mc ds cs mp pk cap cn sn n tk md) = w at r
    obtain ⟨w0, w1, w2, w3, w4, w5, w6, w7, w8, w9, w10, w11, w12⟩ := w
    rw [show (K_X10_change_24 capE PP mc ds cs mp pk cap cn sn n tk md (y0, y1, y2, y3, y4, y5, y6, y7, y8, y9, y10, y11, y12, y13, y14, y15)) = K_X10_change_36 y0 y1 y2 y3 y4 y5 y6 y7 y8 y9 y10 y11 y12 y13 y14 y15 (F_X8_carryOut_ad0 capE PP mc ds cs mp pk cap cn sn n tk md) from rfl, hw]
    exact ⟨r.1, hCS, kf.1, kf.2⟩
  · rw [if_neg c]; exact ⟨hPG, hCS, hhn, hhc⟩
theorem carry1_pgx (capE : Nat) (PP : List PG) (mc : Int32) (ds : Nat → Int32) (cs : Nat → Int32) (mp : Nat → Int32) (pk : Nat → Int32) (cap : Nat) (cn : Int32) (sn : Int32) (n : Int32) (tk : Int32) (md : Int32) (a2 : Int32) (a3 : Int32) (a4 : Int32) (hPG : PGX_ PP) (hCS : CSR_ cs) (hl : PP.length ≤ 990000) (hn0 : 0 ≤ n.toInt) (hn6 : n.toInt ≤ 6) (c : (F_X8_against_ad1 cs n a2 a3 a4).1 = 0) : PGX_ ((F_X8_carryOut_ad1 capE PP mc ds cs mp pk cap cn sn n tk md a2 a3 a4).2.2.2.2.2.2.2.2.2.2.1) ∧ CSR_ ((F_X8_carryOut_ad1 capE PP mc ds cs mp pk cap cn sn n tk md a2 a3 a4).2.2.2.1) ∧ ((F_X8_carryOut_ad1 capE PP mc ds cs mp pk cap cn sn n tk md a2 a3 a4).2.2.2.2.2.2.2.2.2.2.1).length ≤ PP.length + 600 := by
  have r0 := setCanal_pgx (n := n) capE mc ds mp pk cap cn sn tk md hPG hCS (by omega) (has_r (pair_r (against1_r c).1).1 hn6) (has_r (pair_r (against1_r c).1).2.1 hn6) (by have := (against1_r c).2.1; omega) (against1_r c).2.2.1
  unfold F_X8_carryOut_ad1
  generalize F_X8_setCanal capE PP mc ds cs mp pk cap cn sn n tk md a2 a3 a4 = u at r0 ⊢
  obtain ⟨u0, u1, u2, u3, u4, u5, u6, u7, u8, u9, u10, u11, u12⟩ := u
  exact r0
set_option maxHeartbeats 4000000 in
theorem kp_change1 (capE : Nat) (PP : List PG) (mc : Int32) (ds : Nat → Int32) (cs : Nat → Int32) (mp : Nat → Int32) (pk : Nat → Int32) (cap : Nat) (cn : Int32) (sn : Int32) (n : Int32) (tk : Int32) (av : Int32) (lo : Int32) (md : Int32) (hds : Nat → Nat → Int32) (hcs : Nat → Nat → Int32) (hmp : Nat → Nat → Int32) (hpk : Nat → Nat → Int32) (hcap : Nat → Nat) (hcn : Nat → Int32) (hsn : Nat → Int32) (hn : Nat → Int32) (htk : Nat → Int32) (hav : Nat → Int32) (hlo : Nat → Int32) (hmd : Nat → Int32) (hla : Int32) (hct : Int32) (a2 : Int32) (a3 : Int32) (a4 : Int32) (hPG : PGX_ PP) (hCS : CSR_ cs) (hl : PP.length ≤ 950000) (hn0 : 0 ≤ n.toInt) (hn6 : n.toInt ≤ 6) (hhn : ∀ j : Nat, j < 8 → 0 ≤ (hn j).toInt ∧ (hn j).toInt ≤ 6) (hhc : ∀ j : Nat, CSR_ (hcs j)) (hla0 : 0 ≤ hla.toInt) (hla8 : hla.toInt < 8) : PGX_ ((F_X10_change_ad1 capE PP mc ds cs mp pk cap cn sn n tk av lo md hds hcs hmp hpk hcap hcn hsn hn htk hav hlo hmd hla hct a2 a3 a4).2.2.2.2.2.2.2.2.2.2.2.2.2.2.2.2.2.2.2.2.2.2.2.2.2.2.2.1) ∧ CSR_ ((F_X10_change_ad1 capE PP mc ds cs mp pk cap cn sn n tk av lo md hds hcs hmp hpk hcap hcn hsn hn htk hav hlo hmd hla hct a2 a3 a4).2.2.2.2.1) ∧ (∀ j : Nat, j < 8 → 0 ≤ ((F_X10_change_ad1 capE PP mc ds cs mp pk cap cn sn n tk av lo md hds hcs hmp hpk hcap hcn hsn hn htk hav hlo hmd hla hct a2 a3 a4).2.2.2.2.2.2.2.2.2.2.2.2.2.2.2.2.2.2.2.2.1 j).toInt ∧ ((F_X10_change_ad1 capE PP mc ds cs mp pk cap cn sn n tk av lo md hds hcs hmp hpk hcap hcn hsn hn htk hav hlo hmd hla hct a2 a3 a4).2.2.2.2.2.2.2.2.2.2.2.2.2.2.2.2.2.2.2.2.1 j).toInt ≤ 6) ∧ ∀ j : Nat, CSR_ ((F_X10_change_ad1 capE PP mc ds cs mp pk cap cn sn n tk av lo md hds hcs hmp hpk hcap hcn hsn hn htk hav hlo hmd hla hct a2 a3 a4).2.2.2.2.2.2.2.2.2.2.2.2.2.2.1 j) := by
  have kf := keep_k (hds := hds) (hcs := hcs) (hmp := hmp) (hpk := hpk) (hcap := hcap) (hcn := hcn) (hsn := hsn) (hn := hn) (htk := htk) (hav := hav) (hlo := hlo) (hmd := hmd) (hla := hla) (hct := hct) (ds := ds) (cs := cs) (mp := mp) (pk := pk) (cn := cn) (sn := sn) (n := n) (tk := tk) (av := av) (lo := lo) (md := md) hCS hn0 hn6 hhn hhc
  unfold F_X10_change_ad1
  by_cases c : (F_X8_against_ad1 cs n a2 a3 a4).1 = 0
  · rw [if_pos c]
    have r := carry1_pgx capE PP mc ds cs mp pk cap cn sn n tk md a2 a3 a4 hPG hCS (by omega) hn0 hn6 c
    generalize (F_X4_keep hds hcs hmp hpk hcap hcn hsn hn htk hav hlo hmd hla hct ds cs mp pk cn sn n tk av lo md) = y at kf ⊢
    obtain ⟨y0, y1, y2, y3, y4, y5, y6, y7, y8, y9, y10, y11, y12, y13, y14, y15⟩ := y
    generalize hw : (F_X8_carryOut_ad1 capE PP mc ds cs mp pk cap cn sn n tk md a2 a3 a4) = w at r
    obtain ⟨w0, w1, w2, w3, w4, w5, w6, w7, w8, w9, w10, w11, w12⟩ := w
    rw [show (K_X10_change_24_1 capE PP mc ds cs mp pk cap cn sn n tk md a2 a3 a4 (y0, y1, y2, y3, y4, y5, y6, y7, y8, y9, y10, y11, y12, y13, y14, y15)) = K_X10_change_36_1 y0 y1 y2 y3 y4 y5 y6 y7 y8 y9 y10 y11 y12 y13 y14 y15 (F_X8_carryOut_ad1 capE PP mc ds cs mp pk cap cn sn n tk md a2 a3 a4) from rfl, hw]
    exact ⟨r.1, r.2.1, kf.1, kf.2⟩
  · rw [if_neg c]; exact ⟨hPG, hCS, hhn, hhc⟩
theorem carry2_pgx (capE : Nat) (PP : List PG) (mc : Int32) (ds : Nat → Int32) (cs : Nat → Int32) (mp : Nat → Int32) (pk : Nat → Int32) (cap : Nat) (cn : Int32) (sn : Int32) (n : Int32) (tk : Int32) (md : Int32) (a2 : Int32) (a3 : Int32) (hPG : PGX_ PP) (hCS : CSR_ cs) (hl : PP.length ≤ 990000) (hn0 : 0 ≤ n.toInt) (hn6 : n.toInt ≤ 6) (c : (F_X8_against_ad2 cs n a2 a3).1 = 0) : PGX_ ((F_X8_carryOut_ad2 capE PP mc ds cs mp pk cap cn sn n tk md a2 a3).2.2.2.2.2.2.2.2.2.2.1) ∧ CSR_ ((F_X8_carryOut_ad2 capE PP mc ds cs mp pk cap cn sn n tk md a2 a3).2.2.2.1) ∧ ((F_X8_carryOut_ad2 capE PP mc ds cs mp pk cap cn sn n tk md a2 a3).2.2.2.2.2.2.2.2.2.2.1).length ≤ PP.length + 600 := by
  have r0 := setCanal_pgx (n := n) capE mc ds mp pk cap cn sn tk md (v := 0) hPG hCS (by omega) (has_r (pair_r (against2_r c).1).1 hn6) (has_r (pair_r (against2_r c).1).2.1 hn6) z32_0 z32_9
  unfold F_X8_carryOut_ad2
  generalize F_X8_setCanal capE PP mc ds cs mp pk cap cn sn n tk md a2 a3 0 = u at r0 ⊢
  obtain ⟨u0, u1, u2, u3, u4, u5, u6, u7, u8, u9, u10, u11, u12⟩ := u
  exact r0
set_option maxHeartbeats 4000000 in
theorem kp_change2 (capE : Nat) (PP : List PG) (mc : Int32) (ds : Nat → Int32) (cs : Nat → Int32) (mp : Nat → Int32) (pk : Nat → Int32) (cap : Nat) (cn : Int32) (sn : Int32) (n : Int32) (tk : Int32) (av : Int32) (lo : Int32) (md : Int32) (hds : Nat → Nat → Int32) (hcs : Nat → Nat → Int32) (hmp : Nat → Nat → Int32) (hpk : Nat → Nat → Int32) (hcap : Nat → Nat) (hcn : Nat → Int32) (hsn : Nat → Int32) (hn : Nat → Int32) (htk : Nat → Int32) (hav : Nat → Int32) (hlo : Nat → Int32) (hmd : Nat → Int32) (hla : Int32) (hct : Int32) (a2 : Int32) (a3 : Int32) (hPG : PGX_ PP) (hCS : CSR_ cs) (hl : PP.length ≤ 950000) (hn0 : 0 ≤ n.toInt) (hn6 : n.toInt ≤ 6) (hhn : ∀ j : Nat, j < 8 → 0 ≤ (hn j).toInt ∧ (hn j).toInt ≤ 6) (hhc : ∀ j : Nat, CSR_ (hcs j)) (hla0 : 0 ≤ hla.toInt) (hla8 : hla.toInt < 8) : PGX_ ((F_X10_change_ad2 capE PP mc ds cs mp pk cap cn sn n tk av lo md hds hcs hmp hpk hcap hcn hsn hn htk hav hlo hmd hla hct a2 a3).2.2.2.2.2.2.2.2.2.2.2.2.2.2.2.2.2.2.2.2.2.2.2.2.2.2.2.1) ∧ CSR_ ((F_X10_change_ad2 capE PP mc ds cs mp pk cap cn sn n tk av lo md hds hcs hmp hpk hcap hcn hsn hn htk hav hlo hmd hla hct a2 a3).2.2.2.2.1) ∧ (∀ j : Nat, j < 8 → 0 ≤ ((F_X10_change_ad2 capE PP mc ds cs mp pk cap cn sn n tk av lo md hds hcs hmp hpk hcap hcn hsn hn htk hav hlo hmd hla hct a2 a3).2.2.2.2.2.2.2.2.2.2.2.2.2.2.2.2.2.2.2.2.1 j).toInt ∧ ((F_X10_change_ad2 capE PP mc ds cs mp pk cap cn sn n tk av lo md hds hcs hmp hpk hcap hcn hsn hn htk hav hlo hmd hla hct a2 a3).2.2.2.2.2.2.2.2.2.2.2.2.2.2.2.2.2.2.2.2.1 j).toInt ≤ 6) ∧ ∀ j : Nat, CSR_ ((F_X10_change_ad2 capE PP mc ds cs mp pk cap cn sn n tk av lo md hds hcs hmp hpk hcap hcn hsn hn htk hav hlo hmd hla hct a2 a3).2.2.2.2.2.2.2.2.2.2.2.2.2.2.1 j) := by
  have kf := keep_k (hds := hds) (hcs := hcs) (hmp := hmp) (hpk := hpk) (hcap := hcap) (hcn := hcn) (hsn := hsn) (hn := hn) (htk := htk) (hav := hav) (hlo := hlo) (hmd := hmd) (hla := hla) (hct := hct) (ds := ds) (cs := cs) (mp := mp) (pk := pk) (cn := cn) (sn := sn) (n := n) (tk := tk) (av := av) (lo := lo) (md := md) hCS hn0 hn6 hhn hhc
  unfold F_X10_change_ad2
  by_cases c : (F_X8_against_ad2 cs n a2 a3).1 = 0
  · rw [if_pos c]
    have r := carry2_pgx capE PP mc ds cs mp pk cap cn sn n tk md a2 a3 hPG hCS (by omega) hn0 hn6 c
    generalize (F_X4_keep hds hcs hmp hpk hcap hcn hsn hn htk hav hlo hmd hla hct ds cs mp pk cn sn n tk av lo md) = y at kf ⊢
    obtain ⟨y0, y1, y2, y3, y4, y5, y6, y7, y8, y9, y10, y11, y12, y13, y14, y15⟩ := y
    generalize hw : (F_X8_carryOut_ad2 capE PP mc ds cs mp pk cap cn sn n tk md a2 a3) = w at r
    obtain ⟨w0, w1, w2, w3, w4, w5, w6, w7, w8, w9, w10, w11, w12⟩ := w
    rw [show (K_X10_change_24_2 capE PP mc ds cs mp pk cap cn sn n tk md a2 a3 (y0, y1, y2, y3, y4, y5, y6, y7, y8, y9, y10, y11, y12, y13, y14, y15)) = K_X10_change_36_2 y0 y1 y2 y3 y4 y5 y6 y7 y8 y9 y10 y11 y12 y13 y14 y15 (F_X8_carryOut_ad2 capE PP mc ds cs mp pk cap cn sn n tk md a2 a3) from rfl, hw]
    exact ⟨r.1, r.2.1, kf.1, kf.2⟩
  · rw [if_neg c]; exact ⟨hPG, hCS, hhn, hhc⟩
theorem carry3_pgx (capE : Nat) (PP : List PG) (mc : Int32) (ds : Nat → Int32) (cs : Nat → Int32) (mp : Nat → Int32) (pk : Nat → Int32) (cap : Nat) (cn : Int32) (sn : Int32) (n : Int32) (tk : Int32) (lo : Int32) (md : Int32) (a2 : Int32) (a3 : Int32) (hPG : PGX_ PP) (hCS : CSR_ cs) (hl : PP.length ≤ 990000) (hn0 : 0 ≤ n.toInt) (hn6 : n.toInt ≤ 6) (c : (F_X8_against_ad3 ds n a2 a3).1 = 0) : PGX_ ((F_X8_carryOut_ad3 capE PP mc ds cs mp pk cap cn sn n tk lo md a2 a3).2.2.2.2.2.2.2.2.2.2.2.1) ∧ ((F_X8_carryOut_ad3 capE PP mc ds cs mp pk cap cn sn n tk lo md a2 a3).2.2.2.2.2.2.2.2.2.2.2.1).length ≤ PP.length + 600 := by
  have r0 := move_pgx capE mc ds mp pk cap cn sn tk lo md a2 a3 hPG hCS (by omega) hn6
  unfold F_X8_carryOut_ad3
  generalize F_X8_moveTo capE PP mc ds cs mp pk cap cn sn n tk lo md a2 a3 = u at r0 ⊢
  obtain ⟨u0, u1, u2, u3, u4, u5, u6, u7, u8, u9, u10, u11, u12, u13⟩ := u
  exact r0
set_option maxHeartbeats 4000000 in
theorem kp_change3 (capE : Nat) (PP : List PG) (mc : Int32) (ds : Nat → Int32) (cs : Nat → Int32) (mp : Nat → Int32) (pk : Nat → Int32) (cap : Nat) (cn : Int32) (sn : Int32) (n : Int32) (tk : Int32) (av : Int32) (lo : Int32) (md : Int32) (hds : Nat → Nat → Int32) (hcs : Nat → Nat → Int32) (hmp : Nat → Nat → Int32) (hpk : Nat → Nat → Int32) (hcap : Nat → Nat) (hcn : Nat → Int32) (hsn : Nat → Int32) (hn : Nat → Int32) (htk : Nat → Int32) (hav : Nat → Int32) (hlo : Nat → Int32) (hmd : Nat → Int32) (hla : Int32) (hct : Int32) (a2 : Int32) (a3 : Int32) (hPG : PGX_ PP) (hCS : CSR_ cs) (hl : PP.length ≤ 950000) (hn0 : 0 ≤ n.toInt) (hn6 : n.toInt ≤ 6) (hhn : ∀ j : Nat, j < 8 → 0 ≤ (hn j).toInt ∧ (hn j).toInt ≤ 6) (hhc : ∀ j : Nat, CSR_ (hcs j)) (hla0 : 0 ≤ hla.toInt) (hla8 : hla.toInt < 8) : PGX_ ((F_X10_change_ad3 capE PP mc ds cs mp pk cap cn sn n tk av lo md hds hcs hmp hpk hcap hcn hsn hn htk hav hlo hmd hla hct a2 a3).2.2.2.2.2.2.2.2.2.2.2.2.2.2.2.2.2.2.2.2.2.2.2.2.2.2.2.2.1) ∧ CSR_ cs ∧ (∀ j : Nat, j < 8 → 0 ≤ ((F_X10_change_ad3 capE PP mc ds cs mp pk cap cn sn n tk av lo md hds hcs hmp hpk hcap hcn hsn hn htk hav hlo hmd hla hct a2 a3).2.2.2.2.2.2.2.2.2.2.2.2.2.2.2.2.2.2.2.2.2.1 j).toInt ∧ ((F_X10_change_ad3 capE PP mc ds cs mp pk cap cn sn n tk av lo md hds hcs hmp hpk hcap hcn hsn hn htk hav hlo hmd hla hct a2 a3).2.2.2.2.2.2.2.2.2.2.2.2.2.2.2.2.2.2.2.2.2.1 j).toInt ≤ 6) ∧ ∀ j : Nat, CSR_ ((F_X10_change_ad3 capE PP mc ds cs mp pk cap cn sn n tk av lo md hds hcs hmp hpk hcap hcn hsn hn htk hav hlo hmd hla hct a2 a3).2.2.2.2.2.2.2.2.2.2.2.2.2.2.2.1 j) := by
  have kf := keep_k (hds := hds) (hcs := hcs) (hmp := hmp) (hpk := hpk) (hcap := hcap) (hcn := hcn) (hsn := hsn) (hn := hn) (htk := htk) (hav := hav) (hlo := hlo) (hmd := hmd) (hla := hla) (hct := hct) (ds := ds) (cs := cs) (mp := mp) (pk := pk) (cn := cn) (sn := sn) (n := n) (tk := tk) (av := av) (lo := lo) (md := md) hCS hn0 hn6 hhn hhc
  unfold F_X10_change_ad3
  by_cases c : (F_X8_against_ad3 ds n a2 a3).1 = 0
  · rw [if_pos c]
    have r := carry3_pgx capE PP mc ds cs mp pk cap cn sn n tk lo md a2 a3 hPG hCS (by omega) hn0 hn6 c
    generalize (F_X4_keep hds hcs hmp hpk hcap hcn hsn hn htk hav hlo hmd hla hct ds cs mp pk cn sn n tk av lo md) = y at kf ⊢
    obtain ⟨y0, y1, y2, y3, y4, y5, y6, y7, y8, y9, y10, y11, y12, y13, y14, y15⟩ := y
    generalize hw : (F_X8_carryOut_ad3 capE PP mc ds cs mp pk cap cn sn n tk lo md a2 a3) = w at r
    obtain ⟨w0, w1, w2, w3, w4, w5, w6, w7, w8, w9, w10, w11, w12, w13⟩ := w
    rw [show (K_X10_change_24_3 capE PP mc ds cs mp pk cap cn sn n tk lo md a2 a3 (y0, y1, y2, y3, y4, y5, y6, y7, y8, y9, y10, y11, y12, y13, y14, y15)) = K_X10_change_36_3 y0 y1 y2 y3 y4 y5 y6 y7 y8 y9 y10 y11 y12 y13 y14 y15 (F_X8_carryOut_ad3 capE PP mc ds cs mp pk cap cn sn n tk lo md a2 a3) from rfl, hw]
    exact ⟨r.1, hCS, kf.1, kf.2⟩
  · rw [if_neg c]; exact ⟨hPG, hCS, hhn, hhc⟩
set_option maxHeartbeats 4000000 in
theorem kp_change4 (PP : List PG) (ds : Nat → Int32) (cs : Nat → Int32) (mp : Nat → Int32) (pk : Nat → Int32) (cn : Int32) (sn : Int32) (n : Int32) (tk : Int32) (av : Int32) (lo : Int32) (md : Int32) (hds : Nat → Nat → Int32) (hcs : Nat → Nat → Int32) (hmp : Nat → Nat → Int32) (hpk : Nat → Nat → Int32) (hcap : Nat → Nat) (hcn : Nat → Int32) (hsn : Nat → Int32) (hn : Nat → Int32) (htk : Nat → Int32) (hav : Nat → Int32) (hlo : Nat → Int32) (hmd : Nat → Int32) (hla : Int32) (hct : Int32) (hPG : PGX_ PP) (hCS : CSR_ cs) (hl : PP.length ≤ 950000) (hn0 : 0 ≤ n.toInt) (hn6 : n.toInt ≤ 6) (hhn : ∀ j : Nat, j < 8 → 0 ≤ (hn j).toInt ∧ (hn j).toInt ≤ 6) (hhc : ∀ j : Nat, CSR_ (hcs j)) (hla0 : 0 ≤ hla.toInt) (hla8 : hla.toInt < 8) : PGX_ PP ∧ CSR_ cs ∧ (∀ j : Nat, j < 8 → 0 ≤ ((F_X10_change_ad4 PP ds cs mp pk cn sn n tk av lo md hds hcs hmp hpk hcap hcn hsn hn htk hav hlo hmd hla hct).2.2.2.2.2.2.2.2.2.2.2.2.2.2.1 j).toInt ∧ ((F_X10_change_ad4 PP ds cs mp pk cn sn n tk av lo md hds hcs hmp hpk hcap hcn hsn hn htk hav hlo hmd hla hct).2.2.2.2.2.2.2.2.2.2.2.2.2.2.1 j).toInt ≤ 6) ∧ ∀ j : Nat, CSR_ ((F_X10_change_ad4 PP ds cs mp pk cn sn n tk av lo md hds hcs hmp hpk hcap hcn hsn hn htk hav hlo hmd hla hct).2.2.2.2.2.2.2.2.1 j) := by
  have kf := keep_k (hds := hds) (hcs := hcs) (hmp := hmp) (hpk := hpk) (hcap := hcap) (hcn := hcn) (hsn := hsn) (hn := hn) (htk := htk) (hav := hav) (hlo := hlo) (hmd := hmd) (hla := hla) (hct := hct) (ds := ds) (cs := cs) (mp := mp) (pk := pk) (cn := cn) (sn := sn) (n := n) (tk := tk) (av := av) (lo := lo) (md := md) hCS hn0 hn6 hhn hhc
  unfold F_X10_change_ad4
  by_cases c : (F_X8_against_ad4 cn).1 = 0
  · rw [if_pos c]
    generalize (F_X4_keep hds hcs hmp hpk hcap hcn hsn hn htk hav hlo hmd hla hct ds cs mp pk cn sn n tk av lo md) = y at kf ⊢
    obtain ⟨y0, y1, y2, y3, y4, y5, y6, y7, y8, y9, y10, y11, y12, y13, y14, y15⟩ := y
    generalize hw : (F_X8_carryOut_ad4 PP pk cn lo) = w
    obtain ⟨w0, w1, w2, w3, w4, w5⟩ := w
    rw [show (K_X10_change_24_4 PP pk cn lo (y0, y1, y2, y3, y4, y5, y6, y7, y8, y9, y10, y11, y12, y13, y14, y15)) = K_X10_change_36_4 y0 y1 y2 y3 y4 y5 y6 y7 y8 y9 y10 y11 y12 y13 y14 y15 (F_X8_carryOut_ad4 PP pk cn lo) from rfl, hw]
    exact ⟨hPG, hCS, kf.1, kf.2⟩
  · rw [if_neg c]; exact ⟨hPG, hCS, hhn, hhc⟩
theorem carry5_pgx (capE : Nat) (PP : List PG) (mc : Int32) (ds : Nat → Int32) (cs : Nat → Int32) (mp : Nat → Int32) (pk : Nat → Int32) (cap : Nat) (cn : Int32) (sn : Int32) (n : Int32) (tk : Int32) (av : Int32) (lo : Int32) (md : Int32) (a2 : Int32) (hPG : PGX_ PP) (hCS : CSR_ cs) (hl : PP.length ≤ 990000) (hn0 : 0 ≤ n.toInt) (hn6 : n.toInt ≤ 6) (c : (F_X8_against_ad5 a2).1 = 0) : PGX_ ((F_X8_carryOut_ad5 capE PP mc ds cs mp pk cap cn sn n tk av lo md a2).2.2.2.2.2.2.2.2.2.2.2.2.1) ∧ ((F_X8_carryOut_ad5 capE PP mc ds cs mp pk cap cn sn n tk av lo md a2).2.2.2.2.2.2.2.2.2.2.2.2.1).length ≤ PP.length + 600 := by
  exact pass_pgx capE mc ds mp pk cap cn sn tk av lo md a2 hPG hCS (by omega) hn6
set_option maxHeartbeats 4000000 in
theorem kp_change5 (capE : Nat) (PP : List PG) (mc : Int32) (ds : Nat → Int32) (cs : Nat → Int32) (mp : Nat → Int32) (pk : Nat → Int32) (cap : Nat) (cn : Int32) (sn : Int32) (n : Int32) (tk : Int32) (av : Int32) (lo : Int32) (md : Int32) (hds : Nat → Nat → Int32) (hcs : Nat → Nat → Int32) (hmp : Nat → Nat → Int32) (hpk : Nat → Nat → Int32) (hcap : Nat → Nat) (hcn : Nat → Int32) (hsn : Nat → Int32) (hn : Nat → Int32) (htk : Nat → Int32) (hav : Nat → Int32) (hlo : Nat → Int32) (hmd : Nat → Int32) (hla : Int32) (hct : Int32) (a2 : Int32) (hPG : PGX_ PP) (hCS : CSR_ cs) (hl : PP.length ≤ 950000) (hn0 : 0 ≤ n.toInt) (hn6 : n.toInt ≤ 6) (hhn : ∀ j : Nat, j < 8 → 0 ≤ (hn j).toInt ∧ (hn j).toInt ≤ 6) (hhc : ∀ j : Nat, CSR_ (hcs j)) (hla0 : 0 ≤ hla.toInt) (hla8 : hla.toInt < 8) : PGX_ ((F_X10_change_ad5 capE PP mc ds cs mp pk cap cn sn n tk av lo md hds hcs hmp hpk hcap hcn hsn hn htk hav hlo hmd hla hct a2).2.2.2.2.2.2.2.2.2.2.2.2.2.2.2.2.2.2.2.2.2.2.2.2.2.2.2.2.2.1) ∧ CSR_ cs ∧ (∀ j : Nat, j < 8 → 0 ≤ ((F_X10_change_ad5 capE PP mc ds cs mp pk cap cn sn n tk av lo md hds hcs hmp hpk hcap hcn hsn hn htk hav hlo hmd hla hct a2).2.2.2.2.2.2.2.2.2.2.2.2.2.2.2.2.2.2.2.2.2.2.1 j).toInt ∧ ((F_X10_change_ad5 capE PP mc ds cs mp pk cap cn sn n tk av lo md hds hcs hmp hpk hcap hcn hsn hn htk hav hlo hmd hla hct a2).2.2.2.2.2.2.2.2.2.2.2.2.2.2.2.2.2.2.2.2.2.2.1 j).toInt ≤ 6) ∧ ∀ j : Nat, CSR_ ((F_X10_change_ad5 capE PP mc ds cs mp pk cap cn sn n tk av lo md hds hcs hmp hpk hcap hcn hsn hn htk hav hlo hmd hla hct a2).2.2.2.2.2.2.2.2.2.2.2.2.2.2.2.2.1 j) := by
  have kf := keep_k (hds := hds) (hcs := hcs) (hmp := hmp) (hpk := hpk) (hcap := hcap) (hcn := hcn) (hsn := hsn) (hn := hn) (htk := htk) (hav := hav) (hlo := hlo) (hmd := hmd) (hla := hla) (hct := hct) (ds := ds) (cs := cs) (mp := mp) (pk := pk) (cn := cn) (sn := sn) (n := n) (tk := tk) (av := av) (lo := lo) (md := md) hCS hn0 hn6 hhn hhc
  unfold F_X10_change_ad5
  by_cases c : (F_X8_against_ad5 a2).1 = 0
  · rw [if_pos c]
    have r := carry5_pgx capE PP mc ds cs mp pk cap cn sn n tk av lo md a2 hPG hCS (by omega) hn0 hn6 c
    generalize (F_X4_keep hds hcs hmp hpk hcap hcn hsn hn htk hav hlo hmd hla hct ds cs mp pk cn sn n tk av lo md) = y at kf ⊢
    obtain ⟨y0, y1, y2, y3, y4, y5, y6, y7, y8, y9, y10, y11, y12, y13, y14, y15⟩ := y
    generalize hw : (F_X8_carryOut_ad5 capE PP mc ds cs mp pk cap cn sn n tk av lo md a2) = w at r
    obtain ⟨w0, w1, w2, w3, w4, w5, w6, w7, w8, w9, w10, w11, w12, w13, w14⟩ := w
    rw [show (K_X10_change_24_5 capE PP mc ds cs mp pk cap cn sn n tk av lo md a2 (y0, y1, y2, y3, y4, y5, y6, y7, y8, y9, y10, y11, y12, y13, y14, y15)) = K_X10_change_36_5 y0 y1 y2 y3 y4 y5 y6 y7 y8 y9 y10 y11 y12 y13 y14 y15 (F_X8_carryOut_ad5 capE PP mc ds cs mp pk cap cn sn n tk av lo md a2) from rfl, hw]
    exact ⟨r.1, hCS, kf.1, kf.2⟩
  · rw [if_neg c]; exact ⟨hPG, hCS, hhn, hhc⟩
set_option maxHeartbeats 4000000 in
theorem kp_X10_come (capE : Nat) (PP : List PG) (mc : Int32) (ds : Nat → Int32) (cs : Nat → Int32) (mp : Nat → Int32) (pk : Nat → Int32) (cap : Nat) (cn : Int32) (sn : Int32) (n : Int32) (tk : Int32) (av : Int32) (lo : Int32) (md : Int32) (hds : Nat → Nat → Int32) (hcs : Nat → Nat → Int32) (hmp : Nat → Nat → Int32) (hpk : Nat → Nat → Int32) (hcap : Nat → Nat) (hcn : Nat → Int32) (hsn : Nat → Int32) (hn : Nat → Int32) (htk : Nat → Int32) (hav : Nat → Int32) (hlo : Nat → Int32) (hmd : Nat → Int32) (hla : Int32) (hct : Int32) (hPG : PGX_ PP) (hCS : CSR_ cs) (hl : PP.length ≤ 950000) (hn0 : 0 ≤ n.toInt) (hn6 : n.toInt ≤ 6) (hhn : ∀ j : Nat, j < 8 → 0 ≤ (hn j).toInt ∧ (hn j).toInt ≤ 6) (hhc : ∀ j : Nat, CSR_ (hcs j)) (hla0 : 0 ≤ hla.toInt) (hla8 : hla.toInt < 8) : PGX_ ((F_X10_come capE PP mc ds cs mp pk cap cn sn n tk av lo md hds hcs hmp hpk hcap hcn hsn hn htk hav hlo hmd hla hct).2.2.2.2.2.2.2.2.2.2.2.2.2.2.2.2.2.2.2.2.2.2.2.2.2.2.2.1) ∧ CSR_ cs ∧ (∀ j : Nat, j < 8 → 0 ≤ ((F_X10_come capE PP mc ds cs mp pk cap cn sn n tk av lo md hds hcs hmp hpk hcap hcn hsn hn htk hav hlo hmd hla hct).2.2.2.2.2.2.2.2.2.2.2.2.2.2.2.2.2.2.2.2.1 j).toInt ∧ ((F_X10_come capE PP mc ds cs mp pk cap cn sn n tk av lo md hds hcs hmp hpk hcap hcn hsn hn htk hav hlo hmd hla hct).2.2.2.2.2.2.2.2.2.2.2.2.2.2.2.2.2.2.2.2.1 j).toInt ≤ 6) ∧ ∀ j : Nat, CSR_ ((F_X10_come capE PP mc ds cs mp pk cap cn sn n tk av lo md hds hcs hmp hpk hcap hcn hsn hn htk hav hlo hmd hla hct).2.2.2.2.2.2.2.2.2.2.2.2.2.2.1 j) := by
  have r := kp_change0 capE PP mc ds cs mp pk cap cn sn n tk av lo md hds hcs hmp hpk hcap hcn hsn hn htk hav hlo hmd hla hct hPG hCS hl hn0 hn6 hhn hhc hla0 hla8
  unfold F_X10_come
  by_cases c : (F_X10_change_ad0 capE PP mc ds cs mp pk cap cn sn n tk av lo md hds hcs hmp hpk hcap hcn hsn hn htk hav hlo hmd hla hct).1 = 0
  · rw [if_pos c]; exact r
  · rw [if_neg c]; exact r
set_option maxHeartbeats 4000000 in
theorem kp_X10_canal (capE : Nat) (PP : List PG) (mc : Int32) (ds : Nat → Int32) (cs : Nat → Int32) (mp : Nat → Int32) (pk : Nat → Int32) (cap : Nat) (cn : Int32) (sn : Int32) (n : Int32) (tk : Int32) (av : Int32) (lo : Int32) (md : Int32) (hds : Nat → Nat → Int32) (hcs : Nat → Nat → Int32) (hmp : Nat → Nat → Int32) (hpk : Nat → Nat → Int32) (hcap : Nat → Nat) (hcn : Nat → Int32) (hsn : Nat → Int32) (hn : Nat → Int32) (htk : Nat → Int32) (hav : Nat → Int32) (hlo : Nat → Int32) (hmd : Nat → Int32) (hla : Int32) (hct : Int32) (a1 : Int32) (a2 : Int32) (a3 : Int32) (hPG : PGX_ PP) (hCS : CSR_ cs) (hl : PP.length ≤ 950000) (hn0 : 0 ≤ n.toInt) (hn6 : n.toInt ≤ 6) (hhn : ∀ j : Nat, j < 8 → 0 ≤ (hn j).toInt ∧ (hn j).toInt ≤ 6) (hhc : ∀ j : Nat, CSR_ (hcs j)) (hla0 : 0 ≤ hla.toInt) (hla8 : hla.toInt < 8) : PGX_ ((F_X10_canal capE PP mc ds cs mp pk cap cn sn n tk av lo md hds hcs hmp hpk hcap hcn hsn hn htk hav hlo hmd hla hct a1 a2 a3).2.2.2.2.2.2.2.2.2.2.2.2.2.2.2.2.2.2.2.2.2.2.2.2.2.2.2.1) ∧ CSR_ ((F_X10_canal capE PP mc ds cs mp pk cap cn sn n tk av lo md hds hcs hmp hpk hcap hcn hsn hn htk hav hlo hmd hla hct a1 a2 a3).2.2.2.2.1) ∧ (∀ j : Nat, j < 8 → 0 ≤ ((F_X10_canal capE PP mc ds cs mp pk cap cn sn n tk av lo md hds hcs hmp hpk hcap hcn hsn hn htk hav hlo hmd hla hct a1 a2 a3).2.2.2.2.2.2.2.2.2.2.2.2.2.2.2.2.2.2.2.2.1 j).toInt ∧ ((F_X10_canal capE PP mc ds cs mp pk cap cn sn n tk av lo md hds hcs hmp hpk hcap hcn hsn hn htk hav hlo hmd hla hct a1 a2 a3).2.2.2.2.2.2.2.2.2.2.2.2.2.2.2.2.2.2.2.2.1 j).toInt ≤ 6) ∧ ∀ j : Nat, CSR_ ((F_X10_canal capE PP mc ds cs mp pk cap cn sn n tk av lo md hds hcs hmp hpk hcap hcn hsn hn htk hav hlo hmd hla hct a1 a2 a3).2.2.2.2.2.2.2.2.2.2.2.2.2.2.1 j) := by
  have r := kp_change1 capE PP mc ds cs mp pk cap cn sn n tk av lo md hds hcs hmp hpk hcap hcn hsn hn htk hav hlo hmd hla hct a1 a2 a3 hPG hCS hl hn0 hn6 hhn hhc hla0 hla8
  unfold F_X10_canal
  by_cases c : (F_X10_change_ad1 capE PP mc ds cs mp pk cap cn sn n tk av lo md hds hcs hmp hpk hcap hcn hsn hn htk hav hlo hmd hla hct a1 a2 a3).1 = 0
  · rw [if_pos c]; exact r
  · rw [if_neg c]; exact r
set_option maxHeartbeats 4000000 in
theorem kp_X10_close (capE : Nat) (PP : List PG) (mc : Int32) (ds : Nat → Int32) (cs : Nat → Int32) (mp : Nat → Int32) (pk : Nat → Int32) (cap : Nat) (cn : Int32) (sn : Int32) (n : Int32) (tk : Int32) (av : Int32) (lo : Int32) (md : Int32) (hds : Nat → Nat → Int32) (hcs : Nat → Nat → Int32) (hmp : Nat → Nat → Int32) (hpk : Nat → Nat → Int32) (hcap : Nat → Nat) (hcn : Nat → Int32) (hsn : Nat → Int32) (hn : Nat → Int32) (htk : Nat → Int32) (hav : Nat → Int32) (hlo : Nat → Int32) (hmd : Nat → Int32) (hla : Int32) (hct : Int32) (a1 : Int32) (a2 : Int32) (hPG : PGX_ PP) (hCS : CSR_ cs) (hl : PP.length ≤ 950000) (hn0 : 0 ≤ n.toInt) (hn6 : n.toInt ≤ 6) (hhn : ∀ j : Nat, j < 8 → 0 ≤ (hn j).toInt ∧ (hn j).toInt ≤ 6) (hhc : ∀ j : Nat, CSR_ (hcs j)) (hla0 : 0 ≤ hla.toInt) (hla8 : hla.toInt < 8) : PGX_ ((F_X10_close capE PP mc ds cs mp pk cap cn sn n tk av lo md hds hcs hmp hpk hcap hcn hsn hn htk hav hlo hmd hla hct a1 a2).2.2.2.2.2.2.2.2.2.2.2.2.2.2.2.2.2.2.2.2.2.2.2.2.2.2.2.1) ∧ CSR_ ((F_X10_close capE PP mc ds cs mp pk cap cn sn n tk av lo md hds hcs hmp hpk hcap hcn hsn hn htk hav hlo hmd hla hct a1 a2).2.2.2.2.1) ∧ (∀ j : Nat, j < 8 → 0 ≤ ((F_X10_close capE PP mc ds cs mp pk cap cn sn n tk av lo md hds hcs hmp hpk hcap hcn hsn hn htk hav hlo hmd hla hct a1 a2).2.2.2.2.2.2.2.2.2.2.2.2.2.2.2.2.2.2.2.2.1 j).toInt ∧ ((F_X10_close capE PP mc ds cs mp pk cap cn sn n tk av lo md hds hcs hmp hpk hcap hcn hsn hn htk hav hlo hmd hla hct a1 a2).2.2.2.2.2.2.2.2.2.2.2.2.2.2.2.2.2.2.2.2.1 j).toInt ≤ 6) ∧ ∀ j : Nat, CSR_ ((F_X10_close capE PP mc ds cs mp pk cap cn sn n tk av lo md hds hcs hmp hpk hcap hcn hsn hn htk hav hlo hmd hla hct a1 a2).2.2.2.2.2.2.2.2.2.2.2.2.2.2.1 j) := by
  have r := kp_change2 capE PP mc ds cs mp pk cap cn sn n tk av lo md hds hcs hmp hpk hcap hcn hsn hn htk hav hlo hmd hla hct a1 a2 hPG hCS hl hn0 hn6 hhn hhc hla0 hla8
  unfold F_X10_close
  by_cases c : (F_X10_change_ad2 capE PP mc ds cs mp pk cap cn sn n tk av lo md hds hcs hmp hpk hcap hcn hsn hn htk hav hlo hmd hla hct a1 a2).1 = 0
  · rw [if_pos c]; exact r
  · rw [if_neg c]; exact r
set_option maxHeartbeats 4000000 in
theorem kp_X10_district (capE : Nat) (PP : List PG) (mc : Int32) (ds : Nat → Int32) (cs : Nat → Int32) (mp : Nat → Int32) (pk : Nat → Int32) (cap : Nat) (cn : Int32) (sn : Int32) (n : Int32) (tk : Int32) (av : Int32) (lo : Int32) (md : Int32) (hds : Nat → Nat → Int32) (hcs : Nat → Nat → Int32) (hmp : Nat → Nat → Int32) (hpk : Nat → Nat → Int32) (hcap : Nat → Nat) (hcn : Nat → Int32) (hsn : Nat → Int32) (hn : Nat → Int32) (htk : Nat → Int32) (hav : Nat → Int32) (hlo : Nat → Int32) (hmd : Nat → Int32) (hla : Int32) (hct : Int32) (a1 : Int32) (a2 : Int32) (hPG : PGX_ PP) (hCS : CSR_ cs) (hl : PP.length ≤ 950000) (hn0 : 0 ≤ n.toInt) (hn6 : n.toInt ≤ 6) (hhn : ∀ j : Nat, j < 8 → 0 ≤ (hn j).toInt ∧ (hn j).toInt ≤ 6) (hhc : ∀ j : Nat, CSR_ (hcs j)) (hla0 : 0 ≤ hla.toInt) (hla8 : hla.toInt < 8) : PGX_ ((F_X10_district capE PP mc ds cs mp pk cap cn sn n tk av lo md hds hcs hmp hpk hcap hcn hsn hn htk hav hlo hmd hla hct a1 a2).2.2.2.2.2.2.2.2.2.2.2.2.2.2.2.2.2.2.2.2.2.2.2.2.2.2.2.2.1) ∧ CSR_ cs ∧ (∀ j : Nat, j < 8 → 0 ≤ ((F_X10_district capE PP mc ds cs mp pk cap cn sn n tk av lo md hds hcs hmp hpk hcap hcn hsn hn htk hav hlo hmd hla hct a1 a2).2.2.2.2.2.2.2.2.2.2.2.2.2.2.2.2.2.2.2.2.2.1 j).toInt ∧ ((F_X10_district capE PP mc ds cs mp pk cap cn sn n tk av lo md hds hcs hmp hpk hcap hcn hsn hn htk hav hlo hmd hla hct a1 a2).2.2.2.2.2.2.2.2.2.2.2.2.2.2.2.2.2.2.2.2.2.1 j).toInt ≤ 6) ∧ ∀ j : Nat, CSR_ ((F_X10_district capE PP mc ds cs mp pk cap cn sn n tk av lo md hds hcs hmp hpk hcap hcn hsn hn htk hav hlo hmd hla hct a1 a2).2.2.2.2.2.2.2.2.2.2.2.2.2.2.2.1 j) := by
  have r := kp_change3 capE PP mc ds cs mp pk cap cn sn n tk av lo md hds hcs hmp hpk hcap hcn hsn hn htk hav hlo hmd hla hct a1 a2 hPG hCS hl hn0 hn6 hhn hhc hla0 hla8
  unfold F_X10_district
  by_cases c : (F_X10_change_ad3 capE PP mc ds cs mp pk cap cn sn n tk av lo md hds hcs hmp hpk hcap hcn hsn hn htk hav hlo hmd hla hct a1 a2).1 = 0
  · rw [if_pos c]; exact r
  · rw [if_neg c]; exact r
set_option maxHeartbeats 4000000 in
theorem kp_X10_lose (PP : List PG) (ds : Nat → Int32) (cs : Nat → Int32) (mp : Nat → Int32) (pk : Nat → Int32) (cn : Int32) (sn : Int32) (n : Int32) (tk : Int32) (av : Int32) (lo : Int32) (md : Int32) (hds : Nat → Nat → Int32) (hcs : Nat → Nat → Int32) (hmp : Nat → Nat → Int32) (hpk : Nat → Nat → Int32) (hcap : Nat → Nat) (hcn : Nat → Int32) (hsn : Nat → Int32) (hn : Nat → Int32) (htk : Nat → Int32) (hav : Nat → Int32) (hlo : Nat → Int32) (hmd : Nat → Int32) (hla : Int32) (hct : Int32) (hPG : PGX_ PP) (hCS : CSR_ cs) (hl : PP.length ≤ 950000) (hn0 : 0 ≤ n.toInt) (hn6 : n.toInt ≤ 6) (hhn : ∀ j : Nat, j < 8 → 0 ≤ (hn j).toInt ∧ (hn j).toInt ≤ 6) (hhc : ∀ j : Nat, CSR_ (hcs j)) (hla0 : 0 ≤ hla.toInt) (hla8 : hla.toInt < 8) : PGX_ PP ∧ CSR_ cs ∧ (∀ j : Nat, j < 8 → 0 ≤ ((F_X10_lose PP ds cs mp pk cn sn n tk av lo md hds hcs hmp hpk hcap hcn hsn hn htk hav hlo hmd hla hct).2.2.2.2.2.2.2.2.2.2.2.2.2.2.1 j).toInt ∧ ((F_X10_lose PP ds cs mp pk cn sn n tk av lo md hds hcs hmp hpk hcap hcn hsn hn htk hav hlo hmd hla hct).2.2.2.2.2.2.2.2.2.2.2.2.2.2.1 j).toInt ≤ 6) ∧ ∀ j : Nat, CSR_ ((F_X10_lose PP ds cs mp pk cn sn n tk av lo md hds hcs hmp hpk hcap hcn hsn hn htk hav hlo hmd hla hct).2.2.2.2.2.2.2.2.1 j) := by
  have r := kp_change4 PP ds cs mp pk cn sn n tk av lo md hds hcs hmp hpk hcap hcn hsn hn htk hav hlo hmd hla hct hPG hCS hl hn0 hn6 hhn hhc hla0 hla8
  unfold F_X10_lose
  by_cases c : (F_X10_change_ad4 PP ds cs mp pk cn sn n tk av lo md hds hcs hmp hpk hcap hcn hsn hn htk hav hlo hmd hla hct).1 = 0
  · rw [if_pos c]; exact r
  · rw [if_neg c]; exact r
set_option maxHeartbeats 4000000 in
theorem kp_X10_pass (capE : Nat) (PP : List PG) (mc : Int32) (ds : Nat → Int32) (cs : Nat → Int32) (mp : Nat → Int32) (pk : Nat → Int32) (cap : Nat) (cn : Int32) (sn : Int32) (n : Int32) (tk : Int32) (av : Int32) (lo : Int32) (md : Int32) (hds : Nat → Nat → Int32) (hcs : Nat → Nat → Int32) (hmp : Nat → Nat → Int32) (hpk : Nat → Nat → Int32) (hcap : Nat → Nat) (hcn : Nat → Int32) (hsn : Nat → Int32) (hn : Nat → Int32) (htk : Nat → Int32) (hav : Nat → Int32) (hlo : Nat → Int32) (hmd : Nat → Int32) (hla : Int32) (hct : Int32) (a1 : Int32) (hPG : PGX_ PP) (hCS : CSR_ cs) (hl : PP.length ≤ 950000) (hn0 : 0 ≤ n.toInt) (hn6 : n.toInt ≤ 6) (hhn : ∀ j : Nat, j < 8 → 0 ≤ (hn j).toInt ∧ (hn j).toInt ≤ 6) (hhc : ∀ j : Nat, CSR_ (hcs j)) (hla0 : 0 ≤ hla.toInt) (hla8 : hla.toInt < 8) : PGX_ ((F_X10_pass capE PP mc ds cs mp pk cap cn sn n tk av lo md hds hcs hmp hpk hcap hcn hsn hn htk hav hlo hmd hla hct a1).2.2.2.2.2.2.2.2.2.2.2.2.2.2.2.2.2.2.2.2.2.2.2.2.2.2.2.2.2.1) ∧ CSR_ cs ∧ (∀ j : Nat, j < 8 → 0 ≤ ((F_X10_pass capE PP mc ds cs mp pk cap cn sn n tk av lo md hds hcs hmp hpk hcap hcn hsn hn htk hav hlo hmd hla hct a1).2.2.2.2.2.2.2.2.2.2.2.2.2.2.2.2.2.2.2.2.2.2.1 j).toInt ∧ ((F_X10_pass capE PP mc ds cs mp pk cap cn sn n tk av lo md hds hcs hmp hpk hcap hcn hsn hn htk hav hlo hmd hla hct a1).2.2.2.2.2.2.2.2.2.2.2.2.2.2.2.2.2.2.2.2.2.2.1 j).toInt ≤ 6) ∧ ∀ j : Nat, CSR_ ((F_X10_pass capE PP mc ds cs mp pk cap cn sn n tk av lo md hds hcs hmp hpk hcap hcn hsn hn htk hav hlo hmd hla hct a1).2.2.2.2.2.2.2.2.2.2.2.2.2.2.2.2.1 j) := by
  have r := kp_change5 capE PP mc ds cs mp pk cap cn sn n tk av lo md hds hcs hmp hpk hcap hcn hsn hn htk hav hlo hmd hla hct a1 hPG hCS hl hn0 hn6 hhn hhc hla0 hla8
  unfold F_X10_pass
  by_cases c : (F_X10_change_ad5 capE PP mc ds cs mp pk cap cn sn n tk av lo md hds hcs hmp hpk hcap hcn hsn hn htk hav hlo hmd hla hct a1).1 = 0
  · rw [if_pos c]; exact r
  · rw [if_neg c]; exact r
