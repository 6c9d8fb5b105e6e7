set_option maxHeartbeats 4000000 in
theorem kp_X10_undo (ds : Nat → Int32) (cs : Nat → Int32) (mp : Nat → Int32) (pk : Nat → Int32) (cap : Nat) (cn : Int32) (sn : Int32) (n : Int32) (tk : Int32) (av : Int32) (lo : Int32) (md : Int32) (hds : Nat → Nat → Int32) (hcs : Nat → Nat → Int32) (hmp : Nat → Nat → Int32) (hpk : Nat → Nat → Int32) (hcn : Nat → Int32) (hsn : Nat → Int32) (hn : Nat → Int32) (htk : Nat → Int32) (hav : Nat → Int32) (hlo : Nat → Int32) (hmd : Nat → Int32) (hla : Int32) (hct : Int32) (hCS : CSR_ cs) (hn0 : 0 ≤ n.toInt) (hn6 : n.toInt ≤ 6) (hhn : ∀ j : Nat, j < 8 → 0 ≤ (hn j).toInt ∧ (hn j).toInt ≤ 6) (hhc : ∀ j : Nat, CSR_ (hcs j)) (hla0 : 0 ≤ hla.toInt) (hla8 : hla.toInt < 8) : CSR_ (F_X10_undo ds cs mp pk cap cn sn n tk av lo md hds hcs hmp hpk hcn hsn hn htk hav hlo hmd hla hct).2.2.2.1 ∧ 0 ≤ (F_X10_undo ds cs mp pk cap cn sn n tk av lo md hds hcs hmp hpk hcn hsn hn htk hav hlo hmd hla hct).2.2.2.2.2.2.2.2.2.1.toInt ∧ (F_X10_undo ds cs mp pk cap cn sn n tk av lo md hds hcs hmp hpk hcn hsn hn htk hav hlo hmd hla hct).2.2.2.2.2.2.2.2.2.1.toInt ≤ 6 := by
  have hj := hhn _ (ix_lt8 hla0 hla8)
  have r : CSR_ (F_X4_takeBack hds hcs hmp hpk hcn hsn hn htk hav hlo hmd hla hct ds cs mp pk cap cn sn n tk av lo md).2.2.2.1 ∧ 0 ≤ (F_X4_takeBack hds hcs hmp hpk hcn hsn hn htk hav hlo hmd hla hct ds cs mp pk cap cn sn n tk av lo md).2.2.2.2.2.2.2.2.2.1.toInt ∧ (F_X4_takeBack hds hcs hmp hpk hcn hsn hn htk hav hlo hmd hla hct ds cs mp pk cap cn sn n tk av lo md).2.2.2.2.2.2.2.2.2.1.toInt ≤ 6 := by
    unfold F_X4_takeBack
    by_cases c : hct ≤ 0
    · rw [if_pos c]; exact ⟨hCS, hn0, hn6⟩
    · rw [if_neg c]
      have r1 := copy_csr ds mp pk cap (hds (ix hla)) (cs2 := hcs (ix hla)) (hmp (ix hla)) (hpk (ix hla)) (hcn (ix hla)) (hsn (ix hla)) (hn (ix hla)) (htk (ix hla)) (hav (ix hla)) (hlo (ix hla)) (hmd (ix hla)) hCS (hhc (ix hla))
      have r2 := copy_n ds cs mp pk cap (hds (ix hla)) (hcs (ix hla)) (hmp (ix hla)) (hpk (ix hla)) (hcn (ix hla)) (hsn (ix hla)) (hn (ix hla)) (htk (ix hla)) (hav (ix hla)) (hlo (ix hla)) (hmd (ix hla))
      generalize F_X8_copyFrom ds cs mp pk cap (hds (ix hla)) (hcs (ix hla)) (hmp (ix hla)) (hpk (ix hla)) (hcn (ix hla)) (hsn (ix hla)) (hn (ix hla)) (htk (ix hla)) (hav (ix hla)) (hlo (ix hla)) (hmd (ix hla)) = y at r1 r2 ⊢
      obtain ⟨y0, y1, y2, y3, y4, y5, y6, y7, y8, y9, y10, y11, y12, y13⟩ := y
      have r2 : y7 = hn (ix hla) := r2
      subst r2
      exact ⟨r1, hj.1, hj.2⟩
  unfold F_X10_undo
  by_cases c : hct = 0
  · rw [if_pos c]; exact ⟨hCS, hn0, hn6⟩
  · rw [if_neg c]
    generalize F_X4_takeBack hds hcs hmp hpk hcn hsn hn htk hav hlo hmd hla hct ds cs mp pk cap cn sn n tk av lo md = w at r ⊢
    obtain ⟨w0, w1, w2, w3, w4, w5, w6, w7, w8, w9, w10, w11, w12, w13, w14, w15⟩ := w
    exact r
set_option maxHeartbeats 4000000 in
theorem kp_X10_save (ds : Nat → Int32) (cs : Nat → Int32) (mp : Nat → Int32) (pk : Nat → Int32) (cn : Int32) (sn : Int32) (n : Int32) (tk : Int32) (av : Int32) (lo : Int32) (md : Int32) (ds_s : Nat → Int32) (cs_s : Nat → Int32) (mp_s : Nat → Int32) (pk_s : Nat → Int32) (cap_s : Nat) (hCS : CSR_ cs) (hCZ : CSR_ cs_s) : CSR_ (F_X10_save ds cs mp pk cn sn n tk av lo md ds_s cs_s mp_s pk_s cap_s).2.2.1 ∧ (F_X10_save ds cs mp pk cn sn n tk av lo md ds_s cs_s mp_s pk_s cap_s).2.2.2.2.2.2.2.2.1 = n := by
  have r1 := copy_csr ds_s mp_s pk_s cap_s ds mp pk cn sn n tk av lo md hCZ hCS
  have r2 := copy_n ds_s cs_s mp_s pk_s cap_s ds cs mp pk cn sn n tk av lo md
  unfold F_X10_save
  generalize F_X8_copyFrom ds_s cs_s mp_s pk_s cap_s ds cs mp pk cn sn n tk av lo md = y at r1 r2 ⊢
  obtain ⟨y0, y1, y2, y3, y4, y5, y6, y7, y8, y9, y10, y11, y12, y13⟩ := y
  exact ⟨r1, r2⟩
set_option maxHeartbeats 4000000 in
theorem kp_X10_restore (ds : Nat → Int32) (cs : Nat → Int32) (mp : Nat → Int32) (pk : Nat → Int32) (cap : Nat) (cn : Int32) (sn : Int32) (n : Int32) (tk : Int32) (av : Int32) (lo : Int32) (md : Int32) (hct : Int32) (isv : Int32) (ds_s : Nat → Int32) (cs_s : Nat → Int32) (mp_s : Nat → Int32) (pk_s : Nat → Int32) (cn_s : Int32) (sn_s : Int32) (n_s : Int32) (tk_s : Int32) (av_s : Int32) (lo_s : Int32) (md_s : Int32) (hCS : CSR_ cs) (hCZ : CSR_ cs_s) (hn0 : 0 ≤ n.toInt) (hn6 : n.toInt ≤ 6) (hz0 : 0 ≤ n_s.toInt) (hz6 : n_s.toInt ≤ 6) (hc0 : 0 ≤ hct.toInt) (hc8 : hct.toInt ≤ 8) : CSR_ (F_X10_restore ds cs mp pk cap cn sn n tk av lo md hct isv ds_s cs_s mp_s pk_s cn_s sn_s n_s tk_s av_s lo_s md_s).2.2.2.1 ∧ (0 ≤ (F_X10_restore ds cs mp pk cap cn sn n tk av lo md hct isv ds_s cs_s mp_s pk_s cn_s sn_s n_s tk_s av_s lo_s md_s).2.2.2.2.2.2.2.2.2.1.toInt ∧ (F_X10_restore ds cs mp pk cap cn sn n tk av lo md hct isv ds_s cs_s mp_s pk_s cn_s sn_s n_s tk_s av_s lo_s md_s).2.2.2.2.2.2.2.2.2.1.toInt ≤ 6) ∧ 0 ≤ (F_X10_restore ds cs mp pk cap cn sn n tk av lo md hct isv ds_s cs_s mp_s pk_s cn_s sn_s n_s tk_s av_s lo_s md_s).2.2.2.2.2.2.2.2.2.2.2.2.2.2.1.toInt ∧ (F_X10_restore ds cs mp pk cap cn sn n tk av lo md hct isv ds_s cs_s mp_s pk_s cn_s sn_s n_s tk_s av_s lo_s md_s).2.2.2.2.2.2.2.2.2.2.2.2.2.2.1.toInt ≤ 8 := by
  unfold F_X10_restore
  by_cases c : isv = 0
  · rw [if_pos c]; exact ⟨hCS, ⟨hn0, hn6⟩, hc0, hc8⟩
  · rw [if_neg c]
    have r1 := copy_csr ds mp pk cap ds_s mp_s pk_s cn_s sn_s n_s tk_s av_s lo_s md_s hCS hCZ
    have r2 := copy_n ds cs mp pk cap ds_s cs_s mp_s pk_s cn_s sn_s n_s tk_s av_s lo_s md_s
    generalize F_X8_copyFrom ds cs mp pk cap ds_s cs_s mp_s pk_s cn_s sn_s n_s tk_s av_s lo_s md_s = y at r1 r2 ⊢
    obtain ⟨y0, y1, y2, y3, y4, y5, y6, y7, y8, y9, y10, y11, y12, y13⟩ := y
    have r2 : y7 = n_s := r2
    subst r2
    exact ⟨r1, ⟨hz0, hz6⟩, (by decide : 0 ≤ (0 : Int32).toInt), (by decide : (0 : Int32).toInt ≤ 8)⟩
