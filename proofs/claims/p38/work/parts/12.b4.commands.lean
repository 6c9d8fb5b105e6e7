set_option maxHeartbeats 4000000 in
theorem try9_pgx (sg : Nat → Int32) (ln a1 : Int32) (ha : a1.toInt ≤ 61) (B : Nat) (hB : B ≤ 950000) : ∀ (k : Nat) (x : Int32) (a : Int32) (T : Int32) (b : Int32) (c : Int32) (n : Int32) (s6 : Int32) (s7 : Int32) (s8 : Int32) (s9 : Int32) (T3 : Nat) (e : Nat) (f : Nat) (nu : Nat → Int32) (ds : Nat → Int32) (cs : Nat → Int32) (mp : Nat → Int32) (pk : Nat → Int32) (t : List PG) (nc : Nat) (ns : Nat), 0 ≤ x.toInt → PGX_ t → CSR_ cs → 0 ≤ n.toInt → n.toInt ≤ 6 → (t.length : Int) ≤ B + 600 * x.toInt → x.toInt ≤ 61 → PGX_ (K_X10_tryCommands_9 (L_X10_tryCommands_9 sg ln a1 k x a T b c n s6 s7 s8 s9 T3 e f nu ds cs mp pk t nc ns)).2.2.2.2.2.2.2.2.2.2.2.2.2.2.2.2.2.2.2.2.2.2.1 ∧ CSR_ (K_X10_tryCommands_9 (L_X10_tryCommands_9 sg ln a1 k x a T b c n s6 s7 s8 s9 T3 e f nu ds cs mp pk t nc ns)).2.2.2.2.2.2.2.2.2.2.2.1 ∧ 0 ≤ (K_X10_tryCommands_9 (L_X10_tryCommands_9 sg ln a1 k x a T b c n s6 s7 s8 s9 T3 e f nu ds cs mp pk t nc ns)).2.2.2.2.2.2.2.2.2.2.2.2.2.2.2.2.2.1.toInt ∧ (K_X10_tryCommands_9 (L_X10_tryCommands_9 sg ln a1 k x a T b c n s6 s7 s8 s9 T3 e f nu ds cs mp pk t nc ns)).2.2.2.2.2.2.2.2.2.2.2.2.2.2.2.2.2.1.toInt ≤ 6 := by
  intro k
  induction k with
  | zero => intro x a T b c n s6 s7 s8 s9 T3 e f nu ds cs mp pk t nc ns hx ht hc hn0 hn6 hl hx9; exact ⟨ht, hc, hn0, hn6⟩
  | succ k ih =>
    intro x a T b c n s6 s7 s8 s9 T3 e f nu ds cs mp pk t nc ns hx ht hc hn0 hn6 hl hx9
    show PGX_ (K_X10_tryCommands_9 (B_X10_tryCommands_9 sg ln a1 (L_X10_tryCommands_9 sg ln a1 k) x a T b c n s6 s7 s8 s9 T3 e f nu ds cs mp pk t nc ns)).2.2.2.2.2.2.2.2.2.2.2.2.2.2.2.2.2.2.2.2.2.2.1 ∧ CSR_ (K_X10_tryCommands_9 (B_X10_tryCommands_9 sg ln a1 (L_X10_tryCommands_9 sg ln a1 k) x a T b c n s6 s7 s8 s9 T3 e f nu ds cs mp pk t nc ns)).2.2.2.2.2.2.2.2.2.2.2.1 ∧ 0 ≤ (K_X10_tryCommands_9 (B_X10_tryCommands_9 sg ln a1 (L_X10_tryCommands_9 sg ln a1 k) x a T b c n s6 s7 s8 s9 T3 e f nu ds cs mp pk t nc ns)).2.2.2.2.2.2.2.2.2.2.2.2.2.2.2.2.2.1.toInt ∧ (K_X10_tryCommands_9 (B_X10_tryCommands_9 sg ln a1 (L_X10_tryCommands_9 sg ln a1 k) x a T b c n s6 s7 s8 s9 T3 e f nu ds cs mp pk t nc ns)).2.2.2.2.2.2.2.2.2.2.2.2.2.2.2.2.2.1.toInt ≤ 6
    unfold B_X10_tryCommands_9
    by_cases c1 : a1 ≤ x
    · rw [if_pos c1]; exact ⟨ht, hc, hn0, hn6⟩
    · rw [if_neg c1]
      have y9 := f_nle c1
      have e1 : (1 : Int32).toInt = 1 := by decide
      have ex : (x + 1).toInt = x.toInt + (1 : Int32).toInt := addI (by omega) (by omega)
      generalize F_X3_readCommand sg ln T T3 nu = y
      obtain ⟨y0, y1, y2, y3⟩ := y
      unfold K_X10_tryCommands_18
      dsimp only
      by_cases d0 : y0 = 0
      · rw [if_pos d0]; exact ⟨ht, hc, hn0, hn6⟩
      rw [if_neg d0]
      by_cases d1 : y3 = 0
      · rw [if_pos d1]
        by_cases g : (F_X8_against_ad0 n).1 = 0
        · rw [if_pos g]
          have r := carry0_pgx e t a ds cs mp pk f b c n s6 s9 ht hc (by omega) hn0 hn6 g
          generalize F_X8_carryOut_ad0 e t a ds cs mp pk f b c n s6 s9 = w at r ⊢
          obtain ⟨w0, w1, w2, w3, w4, w5, w6, w7, w8, w9, w10, w11, w12⟩ := w
          have ag := against0_r g
          obtain ⟨r1, r2, r3⟩ := r
          have r2 : w10.length ≤ t.length + 600 := r2
          have r3 : w8.toInt = n.toInt + 1 := r3
          exact ih _ _ _ _ _ _ _ _ _ _ _ _ _ _ _ _ _ _ _ _ _ (by omega) r1 hc (by omega) (by omega) (by omega) (by omega)
        · rw [if_neg g]; exact ⟨ht, hc, hn0, hn6⟩
      rw [if_neg d1]
      by_cases d2 : y3 = 1
      · rw [if_pos d2]
        by_cases g : (F_X8_against_ad1 cs n (F_X3_number y1 0) (F_X3_number y1 1) (F_X3_number y1 2)).1 = 0
        · rw [if_pos g]
          have r := carry1_pgx e t a ds cs mp pk f b c n s6 s9 (F_X3_number y1 0) (F_X3_number y1 1) (F_X3_number y1 2) ht hc (by omega) hn0 hn6 g
          generalize F_X8_carryOut_ad1 e t a ds cs mp pk f b c n s6 s9 (F_X3_number y1 0) (F_X3_number y1 1) (F_X3_number y1 2) = w at r ⊢
          obtain ⟨w0, w1, w2, w3, w4, w5, w6, w7, w8, w9, w10, w11, w12⟩ := w
          obtain ⟨r1, r2, r3⟩ := r
          have r3 : w10.length ≤ t.length + 600 := r3
          exact ih _ _ _ _ _ _ _ _ _ _ _ _ _ _ _ _ _ _ _ _ _ (by omega) r1 r2 hn0 hn6 (by omega) (by omega)
        · rw [if_neg g]; exact ⟨ht, hc, hn0, hn6⟩
      rw [if_neg d2]
      by_cases d3 : y3 = 2
      · rw [if_pos d3]
        by_cases g : (F_X8_against_ad2 cs n (F_X3_number y1 0) (F_X3_number y1 1)).1 = 0
        · rw [if_pos g]
          have r := carry2_pgx e t a ds cs mp pk f b c n s6 s9 (F_X3_number y1 0) (F_X3_number y1 1) ht hc (by omega) hn0 hn6 g
          generalize F_X8_carryOut_ad2 e t a ds cs mp pk f b c n s6 s9 (F_X3_number y1 0) (F_X3_number y1 1) = w at r ⊢
          obtain ⟨w0, w1, w2, w3, w4, w5, w6, w7, w8, w9, w10, w11, w12⟩ := w
          obtain ⟨r1, r2, r3⟩ := r
          have r3 : w10.length ≤ t.length + 600 := r3
          exact ih _ _ _ _ _ _ _ _ _ _ _ _ _ _ _ _ _ _ _ _ _ (by omega) r1 r2 hn0 hn6 (by omega) (by omega)
        · rw [if_neg g]; exact ⟨ht, hc, hn0, hn6⟩
      rw [if_neg d3]
      by_cases d4 : y3 = 3
      · rw [if_pos d4]
        by_cases g : (F_X8_against_ad3 ds n (F_X3_number y1 0) (F_X3_number y1 1)).1 = 0
        · rw [if_pos g]
          have r := carry3_pgx e t a ds cs mp pk f b c n s6 s8 s9 (F_X3_number y1 0) (F_X3_number y1 1) ht hc (by omega) hn0 hn6 g
          generalize F_X8_carryOut_ad3 e t a ds cs mp pk f b c n s6 s8 s9 (F_X3_number y1 0) (F_X3_number y1 1) = w at r ⊢
          obtain ⟨w0, w1, w2, w3, w4, w5, w6, w7, w8, w9, w10, w11, w12, w13⟩ := w
          obtain ⟨r1, r3⟩ := r
          have r3 : w11.length ≤ t.length + 600 := r3
          exact ih _ _ _ _ _ _ _ _ _ _ _ _ _ _ _ _ _ _ _ _ _ (by omega) r1 hc hn0 hn6 (by omega) (by omega)
        · rw [if_neg g]; exact ⟨ht, hc, hn0, hn6⟩
      rw [if_neg d4]
      by_cases d5 : y3 = 4
      · rw [if_pos d5]
        by_cases g : (F_X8_against_ad4 b).1 = 0
        · rw [if_pos g]
          generalize F_X8_carryOut_ad4 t pk b s8 = w
          obtain ⟨w0, w1, w2, w3, w4, w5⟩ := w
          exact ih _ _ _ _ _ _ _ _ _ _ _ _ _ _ _ _ _ _ _ _ _ (by omega) ht hc hn0 hn6 (by omega) (by omega)
        · rw [if_neg g]; exact ⟨ht, hc, hn0, hn6⟩
      rw [if_neg d5]
      by_cases g : (F_X8_against_ad5 (F_X3_number y1 0)).1 = 0
      · rw [if_pos g]
        have r := carry5_pgx e t a ds cs mp pk f b c n s6 s7 s8 s9 (F_X3_number y1 0) ht hc (by omega) hn0 hn6 g
        generalize F_X8_carryOut_ad5 e t a ds cs mp pk f b c n s6 s7 s8 s9 (F_X3_number y1 0) = w at r ⊢
        obtain ⟨w0, w1, w2, w3, w4, w5, w6, w7, w8, w9, w10, w11, w12, w13, w14⟩ := w
        obtain ⟨r1, r3⟩ := r
        have r3 : w12.length ≤ t.length + 600 := r3
        exact ih _ _ _ _ _ _ _ _ _ _ _ _ _ _ _ _ _ _ _ _ _ (by omega) r1 hc hn0 hn6 (by omega) (by omega)
      · rw [if_neg g]; exact ⟨ht, hc, hn0, hn6⟩
theorem kp_try (capE : Nat) (PP : List PG) (mc : Int32) (sg : Nat → Int32) (ln : Int32) (ch : Nat) (nu : Nat → Int32) (ds_t cs_t mp_t pk_t : Nat → Int32) (cap_t : Nat) (cn_t sn_t n_t tk_t av_t lo_t md_t : Int32) (a1 : Int32) (ha : a1.toInt ≤ 61) (hPG : PGX_ PP) (hCS : CSR_ cs_t) (hn0 : 0 ≤ n_t.toInt) (hn6 : n_t.toInt ≤ 6) (hl : PP.length ≤ 950000) : PGX_ (F_X10_tryCommands capE PP mc sg ln ch nu ds_t cs_t mp_t pk_t cap_t cn_t sn_t n_t tk_t av_t lo_t md_t a1).2.2.2.2.2.2.2.2.2.2.2.2.2.2.2.2.2.2.2.2.2.2.1 ∧ CSR_ (F_X10_tryCommands capE PP mc sg ln ch nu ds_t cs_t mp_t pk_t cap_t cn_t sn_t n_t tk_t av_t lo_t md_t a1).2.2.2.2.2.2.2.2.2.2.2.1 ∧ 0 ≤ (F_X10_tryCommands capE PP mc sg ln ch nu ds_t cs_t mp_t pk_t cap_t cn_t sn_t n_t tk_t av_t lo_t md_t a1).2.2.2.2.2.2.2.2.2.2.2.2.2.2.2.2.2.1.toInt ∧ (F_X10_tryCommands capE PP mc sg ln ch nu ds_t cs_t mp_t pk_t cap_t cn_t sn_t n_t tk_t av_t lo_t md_t a1).2.2.2.2.2.2.2.2.2.2.2.2.2.2.2.2.2.1.toInt ≤ 6 := by
  unfold F_X10_tryCommands
  exact try9_pgx sg ln a1 ha PP.length hl _ _ _ _ _ _ _ _ _ _ _ _ _ _ _ _ _ _ _ _ _ _ (by decide) hPG hCS hn0 hn6 (by rw [show (0 : Int32).toInt = 0 from by decide]; omega) (by decide)
set_option maxHeartbeats 4000000 in
theorem kp_X10_commands (capE : Nat) (PP : List PG) (mc : Int32) (ds cs mp pk : Nat → Int32) (cap : Nat) (cn sn n tk av lo md : Int32) (hds hcs hmp hpk : Nat → Nat → Int32) (hcap : Nat → Nat) (hcn hsn hn htk hav hlo hmd : Nat → Int32) (hla hct : Int32) (sg : Nat → Int32) (ln : Int32) (ch : Nat) (nu : Nat → Int32) (ds_t cs_t mp_t pk_t : Nat → Int32) (cap_t : Nat) (cn_t sn_t n_t tk_t av_t lo_t md_t : Int32) (hPG : PGX_ PP) (hCS : CSR_ cs) (hCT : CSR_ cs_t) (hl : PP.length ≤ 940000) (hn0 : 0 ≤ n.toInt) (hn6 : n.toInt ≤ 6) (hhn : ∀ j : Nat, j < 8 → 0 ≤ (hn j).toInt ∧ (hn j).toInt ≤ 6) (hhc : ∀ j : Nat, CSR_ (hcs j)) (hcc : (F_X3_countCommands sg ln).toInt ≤ 61) : PGX_ (F_X10_commands capE PP mc ds cs mp pk cap cn sn n tk av lo md hds hcs hmp hpk hcap hcn hsn hn htk hav hlo hmd hla hct sg ln ch nu ds_t cs_t mp_t pk_t cap_t cn_t sn_t n_t tk_t av_t lo_t md_t).2.2.2.2.2.2.2.2.2.2.2.2.2.2.2.2.2.2.2.2.2.2.2.2.2.2.2.2.2.2.2.2.2.2.2.2.2.2.2.2.2.2.2.2.2.2.2.2.2.2.2.1 ∧ CSR_ (F_X10_commands capE PP mc ds cs mp pk cap cn sn n tk av lo md hds hcs hmp hpk hcap hcn hsn hn htk hav hlo hmd hla hct sg ln ch nu ds_t cs_t mp_t pk_t cap_t cn_t sn_t n_t tk_t av_t lo_t md_t).2.2.2.2.2.1 ∧ CSR_ (F_X10_commands capE PP mc ds cs mp pk cap cn sn n tk av lo md hds hcs hmp hpk hcap hcn hsn hn htk hav hlo hmd hla hct sg ln ch nu ds_t cs_t mp_t pk_t cap_t cn_t sn_t n_t tk_t av_t lo_t md_t).2.2.2.2.2.2.2.2.2.2.2.2.2.2.2.2.2.2.2.2.2.2.2.1 ∧ (∀ j : Nat, j < 8 → 0 ≤ ((F_X10_commands capE PP mc ds cs mp pk cap cn sn n tk av lo md hds hcs hmp hpk hcap hcn hsn hn htk hav hlo hmd hla hct sg ln ch nu ds_t cs_t mp_t pk_t cap_t cn_t sn_t n_t tk_t av_t lo_t md_t).2.2.2.2.2.2.2.2.2.2.2.2.2.2.2.2.2.2.2.2.2.2.2.2.2.2.2.2.2.2.2.2.2.2.2.2.2.2.2.2.2.2.1 j).toInt ∧ ((F_X10_commands capE PP mc ds cs mp pk cap cn sn n tk av lo md hds hcs hmp hpk hcap hcn hsn hn htk hav hlo hmd hla hct sg ln ch nu ds_t cs_t mp_t pk_t cap_t cn_t sn_t n_t tk_t av_t lo_t md_t).2.2.2.2.2.2.2.2.2.2.2.2.2.2.2.2.2.2.2.2.2.2.2.2.2.2.2.2.2.2.2.2.2.2.2.2.2.2.2.2.2.2.1 j).toInt ≤ 6) ∧ ∀ j : Nat, CSR_ ((F_X10_commands capE PP mc ds cs mp pk cap cn sn n tk av lo md hds hcs hmp hpk hcap hcn hsn hn htk hav hlo hmd hla hct sg ln ch nu ds_t cs_t mp_t pk_t cap_t cn_t sn_t n_t tk_t av_t lo_t md_t).2.2.2.2.2.2.2.2.2.2.2.2.2.2.2.2.2.2.2.2.2.2.2.2.2.2.2.2.2.2.2.2.2.2.2.2.1 j) := by
  have kf := keep_k (hds := hds) (hcs := hcs) (hmp := hmp) (hpk := hpk) (hcap := hcap) (hcn := hcn) (hsn := hsn) (hn := hn) (htk := htk) (hav := hav) (hlo := hlo) (hmd := hmd) (hla := hla) (hct := hct) (ds := ds) (cs := cs) (mp := mp) (pk := pk) (cn := cn) (sn := sn) (n := n) (tk := tk) (av := av) (lo := lo) (md := md) hCS hn0 hn6 hhn hhc
  unfold F_X10_commands
  generalize F_X3_findFault sg ln ch nu = z
  obtain ⟨z0, z1, z2, z3⟩ := z
  unfold K_X10_commands_5
  dsimp only
  by_cases c : z0 = -1
  · rw [if_pos c]
    have r1 := copy_csr ds_t mp_t pk_t cap_t ds mp pk cn sn n tk av lo md hCT hCS
    have r2 := copy_n ds_t cs_t mp_t pk_t cap_t ds cs mp pk cn sn n tk av lo md
    generalize F_X8_copyFrom ds_t cs_t mp_t pk_t cap_t ds cs mp pk cn sn n tk av lo md = y at r1 r2 ⊢
    obtain ⟨y0, y1, y2, y3, y4, y5, y6, y7, y8, y9, y10, y11, y12, y13⟩ := y
    have r2 : y7 = n := r2
    have r1 : CSR_ y1 := r1
    have r := kp_try capE PP mc sg ln z3 z1 y0 y1 y2 y4 y3 y5 y6 y7 y8 y9 y10 y11 (F_X3_countCommands sg ln) hcc hPG r1 (by rw [r2]; exact hn0) (by rw [r2]; exact hn6) (by omega)
    unfold K_X10_commands_53
    dsimp only
    generalize hq : F_X10_tryCommands capE PP mc sg ln z3 z1 y0 y1 y2 y4 y3 y5 y6 y7 y8 y9 y10 y11 (F_X3_countCommands sg ln) = q at r ⊢
    obtain ⟨q0, q1, q2, q3, q4, q5, q6, q7, q8, q9, q10, q11, q12, q13, q14, q15, q16, q17, q18, q19, q20, q21, q22, q23, q24⟩ := q
    obtain ⟨r3, r4, -, -⟩ := r
    have r3 : PGX_ q22 := r3
    have r4 : CSR_ q11 := r4
    dsimp only
    by_cases c2 : q0 = 0
    · rw [if_pos c2]
      generalize F_X4_keep hds hcs hmp hpk hcap hcn hsn hn htk hav hlo hmd hla hct ds cs mp pk cn sn n tk av lo md = u at kf ⊢
      obtain ⟨u0, u1, u2, u3, u4, u5, u6, u7, u8, u9, u10, u11, u12, u13, u14, u15⟩ := u
      obtain ⟨k1, k2⟩ := kf
      unfold K_X10_commands_82
      dsimp only
      rw [hq]
      dsimp only
      have r5 := copy_csr ds mp pk cap q10 q12 q14 q15 q16 q17 q18 q19 q20 q21 hCS r4
      generalize F_X8_copyFrom ds cs mp pk cap q10 q11 q12 q14 q15 q16 q17 q18 q19 q20 q21 = v at r5 ⊢
      obtain ⟨v0, v1, v2, v3, v4, v5, v6, v7, v8, v9, v10, v11, v12, v13⟩ := v
      unfold K_X10_commands_93
      dsimp only
      rw [hq]
      exact ⟨r3, r5, r4, k1, k2⟩
    · rw [if_neg c2]; exact ⟨r3, hCS, r4, hhn, hhc⟩
  · rw [if_neg c]; exact ⟨hPG, hCS, hCT, hhn, hhc⟩
