/-! THE RING, THE SNAPSHOT -/
theorem keep_spec {hds hcs hmp hpk : Nat → Nat → Int32} {hcap : Nat → Nat} {hcn hsn hn htk hav hlo hmd : Nat → Int32} (hla hct : Int32) {ds cs mp : Nat → Int32} (pk : Nat → Int32) {cn : Int32} (sn n tk av lo md : Int32) {j : Nat} (ej : ix (rmI (hla + 1) 8) = j) (z1 : Zf 6 (hds j)) (z2 : Zf 36 (hcs j)) (z3 : Zf 36 (hmp j)) (y1 : Zf 6 ds) (y2 : Zf 36 cs) (y3 : Zf 36 mp) (h0 : 0 ≤ cn.toInt) (h1 : cn.toInt ≤ 1000000) (hc : 64 ≤ hcap j) (hc2 : hcap j ≤ 2000000) :
    ∃ cap' pk' c s, F_X4_keep hds hcs hmp hpk hcap hcn hsn hn htk hav hlo hmd hla hct ds cs mp pk cn sn n tk av lo md = (rmI (hla + 1) 8, inI (hct + 1) 8, va_up hds j ds, va_up hcs j cs, va_up hmp j mp, va_up hpk j pk', va_up hcap j cap', va_up hcn j cn, va_up hsn j sn, va_up hn j n, va_up htk j tk, va_up hav j av, va_up hlo j lo, va_up hmd j md, c, s) ∧ (∀ i, i < ix cn → pk i = pk' i) ∧ LC cap' cn ∧ cap' ≤ max (hcap j) (2 * cn.toInt.toNat) ∧ CC (hcap j) cap' c s := by
  obtain ⟨cap', pk', c, s, e, g1, g2, g3, g4⟩ := copy_spec (cn2 := cn) (hpk j) (cap := hcap j) pk sn n tk av lo md z1 z2 z3 y1 y2 y3 h0 h1 hc hc2
  refine ⟨cap', pk', c, s, ?_, g1, g2, g3, g4⟩
  unfold F_X4_keep
  rw [ej, e]
  unfold K_X4_keep_23
  simp only []
  rw [ej, Nat.zero_add, Nat.zero_add]
theorem undo_spec {hds hcs hmp hpk : Nat → Nat → Int32} {hcn hsn hn htk hav hlo hmd : Nat → Int32} {hla hct : Int32} {ds cs mp : Nat → Int32} (pk : Nat → Int32) {cap : Nat} (cn sn n tk av lo md : Int32) {j : Nat} (ej : ix hla = j) (hct0 : 0 < hct.toInt) (z1 : Zf 6 ds) (z2 : Zf 36 cs) (z3 : Zf 36 mp) (y1 : Zf 6 (hds j)) (y2 : Zf 36 (hcs j)) (y3 : Zf 36 (hmp j)) (h0 : 0 ≤ (hcn j).toInt) (h1 : (hcn j).toInt ≤ 1000000) (hc : 64 ≤ cap) (hc2 : cap ≤ 2000000) :
    ∃ cap' pk' c s, F_X10_undo ds cs mp pk cap cn sn n tk av lo md hds hcs hmp hpk hcn hsn hn htk hav hlo hmd hla hct = (0, hct - 1, hds j, hcs j, hmp j, cap', pk', hcn j, hsn j, hn j, htk j, hav j, hlo j, hmd j, rmI ((hla + 8) - 1) 8, hct - 1, c, s) ∧ (∀ i, i < ix (hcn j) → hpk j i = pk' i) ∧ LC cap' (hcn j) ∧ cap' ≤ max cap (2 * (hcn j).toInt.toNat) ∧ CC cap cap' c s := by
  obtain ⟨cap', pk', c, s, e, g1, g2, g3, g4⟩ := copy_spec (cn2 := hcn j) pk (cap := cap) (hpk j) (hsn j) (hn j) (htk j) (hav j) (hlo j) (hmd j) z1 z2 z3 y1 y2 y3 h0 h1 hc hc2
  refine ⟨cap', pk', c, s, ?_, g1, g2, g3, g4⟩
  have c0 : ¬ hct = 0 := fun z => by rw [z, i0] at hct0; omega
  have c1 : ¬ hct ≤ 0 := fun z => by have := f_le z; rw [i0] at this; omega
  unfold F_X10_undo F_X4_takeBack
  rw [if_neg c0, if_neg c1, ej, e]
  unfold K_X4_takeBack_17
  simp only []
  unfold K_X10_undo_29
  simp only []
  rw [Nat.zero_add, Nat.zero_add, Nat.zero_add, Nat.zero_add]
theorem save_spec {ds cs mp : Nat → Int32} (pk : Nat → Int32) {cn : Int32} (sn n tk av lo md : Int32) {ds_s cs_s mp_s : Nat → Int32} (pk_s : Nat → Int32) {cap_s : Nat} (z1 : Zf 6 ds_s) (z2 : Zf 36 cs_s) (z3 : Zf 36 mp_s) (y1 : Zf 6 ds) (y2 : Zf 36 cs) (y3 : Zf 36 mp) (h0 : 0 ≤ cn.toInt) (h1 : cn.toInt ≤ 1000000) (hc : 64 ≤ cap_s) (hc2 : cap_s ≤ 2000000) :
    ∃ cap' pk' c s, F_X10_save ds cs mp pk cn sn n tk av lo md ds_s cs_s mp_s pk_s cap_s = (n, ds, cs, mp, cap', pk', cn, sn, n, tk, av, lo, md, 1, c, s) ∧ (∀ i, i < ix cn → pk i = pk' i) ∧ LC cap' cn ∧ cap' ≤ max cap_s (2 * cn.toInt.toNat) ∧ CC cap_s cap' c s := by
  obtain ⟨cap', pk', c, s, e, g1, g2, g3, g4⟩ := copy_spec (cn2 := cn) pk_s (cap := cap_s) pk sn n tk av lo md z1 z2 z3 y1 y2 y3 h0 h1 hc hc2
  refine ⟨cap', pk', c, s, ?_, g1, g2, g3, g4⟩
  unfold F_X10_save
  rw [e]
  unfold K_X10_save_8
  simp only []
  rw [Nat.zero_add, Nat.zero_add]
theorem restore_spec {ds cs mp : Nat → Int32} (pk : Nat → Int32) {cap : Nat} (cn sn n tk av lo md hct : Int32) {isv : Int32} {ds_s cs_s mp_s : Nat → Int32} (pk_s : Nat → Int32) {cn_s : Int32} (sn_s n_s tk_s av_s lo_s md_s : Int32) (hs : ¬ isv = 0) (z1 : Zf 6 ds) (z2 : Zf 36 cs) (z3 : Zf 36 mp) (y1 : Zf 6 ds_s) (y2 : Zf 36 cs_s) (y3 : Zf 36 mp_s) (h0 : 0 ≤ cn_s.toInt) (h1 : cn_s.toInt ≤ 1000000) (hc : 64 ≤ cap) (hc2 : cap ≤ 2000000) :
    ∃ cap' pk' c s, F_X10_restore ds cs mp pk cap cn sn n tk av lo md hct isv ds_s cs_s mp_s pk_s cn_s sn_s n_s tk_s av_s lo_s md_s = (0, n_s, ds_s, cs_s, mp_s, cap', pk', cn_s, sn_s, n_s, tk_s, av_s, lo_s, md_s, F_X4_forget, c, s) ∧ (∀ i, i < ix cn_s → pk_s i = pk' i) ∧ LC cap' cn_s ∧ cap' ≤ max cap (2 * cn_s.toInt.toNat) ∧ CC cap cap' c s := by
  obtain ⟨cap', pk', c, s, e, g1, g2, g3, g4⟩ := copy_spec (cn2 := cn_s) pk (cap := cap) pk_s sn_s n_s tk_s av_s lo_s md_s z1 z2 z3 y1 y2 y3 h0 h1 hc hc2
  refine ⟨cap', pk', c, s, ?_, g1, g2, g3, g4⟩
  unfold F_X10_restore
  rw [if_neg hs, e]
  unfold K_X10_restore_26
  simp only []
  rw [Nat.zero_add, Nat.zero_add, Nat.add_zero, Nat.add_zero]
