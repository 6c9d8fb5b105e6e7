/-! COMMANDS OVER THE WHOLE STATE -/
theorem cmd_fault_eq {ds cs mp pk : Nat → Int32} {cap : Nat} {cn sn n tk av lo md : Int32} {hds hcs hmp hpk : Nat → Nat → Int32} {hcap : Nat → Nat} {hcn hsn hn htk hav hlo hmd : Nat → Int32} {hla hct : Int32} {ds_t cs_t mp_t pk_t : Nat → Int32} {cap_t : Nat} {cn_t sn_t n_t tk_t av_t lo_t md_t : Int32} {SA9 : SV} {wc wd sg wb nu nu1 : Nat → Int32} {ln pl wl wn isv lf kr kd kr2 kd2 mc f pl1 : Int32} {ch ch1 capw kk capE : Nat} {PP : List PG} (hf : F_X3_findFault sg ln ch nu = (f, nu1, pl1, ch1)) (hf1 : ¬ f = -1) :
    ∃ C S, F_L_commands ((ds, cs, mp, pk, cap, cn, sn, n, tk, av, lo, md), (ds_t, cs_t, mp_t, pk_t, cap_t, cn_t, sn_t, n_t, tk_t, av_t, lo_t, md_t), SA9, (hds, hcs, hmp, hpk, hcap, hcn, hsn, hn, htk, hav, hlo, hmd, hla, hct), wc, wd, sg, ln, pl, ch, nu, wb, capw, wl, wn, isv, lf, kk, kr, kd, kr2, kd2, capE, mc, PP) = (-1001, ((ds, cs, mp, pk, cap, cn, sn, n, tk, av, lo, md), (ds_t, cs_t, mp_t, pk_t, cap_t, cn_t, sn_t, n_t, tk_t, av_t, lo_t, md_t), SA9, (hds, hcs, hmp, hpk, hcap, hcn, hsn, hn, htk, hav, hlo, hmd, hla, hct), wc, wd, sg, 0, pl1, ch1, nu1, wb, capw, wl, wn, isv, f, kk, kr, kd, kr2, kd2, capE, mc, PP), C, S) ∧ C ≤ 4 ∧ S ≤ 24 := by
  unfold F_L_commands
  rw [show FF_X10_commands ((ds, cs, mp, pk, cap, cn, sn, n, tk, av, lo, md), (ds_t, cs_t, mp_t, pk_t, cap_t, cn_t, sn_t, n_t, tk_t, av_t, lo_t, md_t), SA9, (hds, hcs, hmp, hpk, hcap, hcn, hsn, hn, htk, hav, hlo, hmd, hla, hct), wc, wd, sg, ln, pl, ch, nu, wb, capw, wl, wn, isv, lf, kk, kr, kd, kr2, kd2, capE, mc, PP) = F_X10_commands capE PP mc ds cs mp pk cap cn sn n tk av lo md hds hcs hmp hpk hcap hcn hsn hn htk hav hlo hmd hla hct sg ln ch nu ds_t cs_t mp_t pk_t cap_t cn_t sn_t n_t tk_t av_t lo_t md_t from Eq.refl _]
  unfold F_X10_commands
  rw [hf]
  unfold K_X10_commands_5
  simp only []
  rw [if_neg hf1]
  unfold K_L_commands_1
  simp only [show ¬ (3 : Nat) = 0 from by decide, show ¬ (3 : Nat) = 1 from by decide, if_false, adc]
  exact ⟨_, _, rfl, by decide, by decide⟩
theorem cmd_ref_eq {ds cs mp pk : Nat → Int32} {cap : Nat} {cn sn n tk av lo md : Int32} {hds hcs hmp hpk : Nat → Nat → Int32} {hcap : Nat → Nat} {hcn hsn hn htk hav hlo hmd : Nat → Int32} {hla hct : Int32} {ds_t cs_t mp_t pk_t : Nat → Int32} {cap_t : Nat} {cn_t sn_t n_t tk_t av_t lo_t md_t : Int32} {SA9 : SV} {wc wd sg wb nu nu1 : Nat → Int32} {ln pl wl wn isv lf kr kd kr2 kd2 mc pl1 a9 : Int32} {ch ch1 capw kk capE : Nat} {PP : List PG} {x1 x2 x3 x5 : Nat → Int32} {x4 c1 s1 C S : Nat} {x6 x7 x8 x9 x10 x11 x12 : Int32} {r8 i8 r2 d2 : Int32} {capE' : Nat} {mc' : Int32} {nu' : Nat → Int32} {pl' : Int32} {ch' : Nat} {ds' cs' mp' pk' : Nat → Int32} {cap' : Nat} {cn' sn' n' tk' av' lo' md' : Int32} {PP' : List PG}
    (hf : F_X3_findFault sg ln ch nu = (-1, nu1, pl1, ch1)) (hk : F_X3_countCommands sg ln = a9) (ec : F_X8_copyFrom ds_t cs_t mp_t pk_t cap_t ds cs mp pk cn sn n tk av lo md = (x1, x2, x3, x4, x5, x6, x7, x8, x9, x10, x11, x12, c1, s1)) (et : F_X10_tryCommands capE PP mc sg ln ch1 nu1 x1 x2 x3 x5 x4 x6 x7 x8 x9 x10 x11 x12 a9 = (2, r8, i8, r2, d2, capE', mc', nu', pl', ch', ds', cs', mp', cap', pk', cn', sn', n', tk', av', lo', md', PP', C, S)) :
    ∃ C9 S9, F_L_commands ((ds, cs, mp, pk, cap, cn, sn, n, tk, av, lo, md), (ds_t, cs_t, mp_t, pk_t, cap_t, cn_t, sn_t, n_t, tk_t, av_t, lo_t, md_t), SA9, (hds, hcs, hmp, hpk, hcap, hcn, hsn, hn, htk, hav, hlo, hmd, hla, hct), wc, wd, sg, ln, pl, ch, nu, wb, capw, wl, wn, isv, lf, kk, kr, kd, kr2, kd2, capE, mc, PP) = (-1002, ((ds, cs, mp, pk, cap, cn, sn, n, tk, av, lo, md), (ds', cs', mp', pk', cap', cn', sn', n', tk', av', lo', md'), SA9, (hds, hcs, hmp, hpk, hcap, hcn, hsn, hn, htk, hav, hlo, hmd, hla, hct), wc, wd, sg, 0, pl', ch', nu', wb, capw, wl, wn, isv, -1, 2, r8, i8, r2, d2, capE', mc', PP'), C9, S9) ∧ C9 ≤ c1 + C + 4 ∧ S9 ≤ s1 + S + 24 := by
  unfold F_L_commands
  rw [show FF_X10_commands ((ds, cs, mp, pk, cap, cn, sn, n, tk, av, lo, md), (ds_t, cs_t, mp_t, pk_t, cap_t, cn_t, sn_t, n_t, tk_t, av_t, lo_t, md_t), SA9, (hds, hcs, hmp, hpk, hcap, hcn, hsn, hn, htk, hav, hlo, hmd, hla, hct), wc, wd, sg, ln, pl, ch, nu, wb, capw, wl, wn, isv, lf, kk, kr, kd, kr2, kd2, capE, mc, PP) = F_X10_commands capE PP mc ds cs mp pk cap cn sn n tk av lo md hds hcs hmp hpk hcap hcn hsn hn htk hav hlo hmd hla hct sg ln ch nu ds_t cs_t mp_t pk_t cap_t cn_t sn_t n_t tk_t av_t lo_t md_t from Eq.refl _]
  unfold F_X10_commands
  rw [hf]
  unfold K_X10_commands_5
  simp only [if_true]
  rw [ec]
  unfold K_X10_commands_53
  simp only [hk, et, show ¬ (2 : Nat) = 0 from by decide, if_false]
  unfold K_L_commands_1
  simp only [show ¬ (1 : Nat) = 0 from by decide, if_false, if_true, adc]
  exact ⟨_, _, rfl, by omega, by omega⟩
theorem cmd_ok_eq {ds cs mp pk : Nat → Int32} {cap : Nat} {cn sn n tk av lo md : Int32} {hds hcs hmp hpk : Nat → Nat → Int32} {hcap : Nat → Nat} {hcn hsn hn htk hav hlo hmd : Nat → Int32} {hla hct : Int32} {ds_t cs_t mp_t pk_t : Nat → Int32} {cap_t : Nat} {cn_t sn_t n_t tk_t av_t lo_t md_t : Int32} {SA9 : SV} {wc wd sg wb nu nu1 : Nat → Int32} {ln pl wl wn isv lf kr kd kr2 kd2 mc pl1 a9 : Int32} {ch ch1 capw kk capE : Nat} {PP : List PG} {x1 x2 x3 x5 : Nat → Int32} {x4 c1 s1 C S : Nat} {x6 x7 x8 x9 x10 x11 x12 : Int32} {capE' : Nat} {mc' : Int32} {nu' : Nat → Int32} {pl' : Int32} {ch' : Nat} {ds' cs' mp' pk' : Nat → Int32} {cap' : Nat} {cn' sn' n' tk' av' lo' md' : Int32} {PP' : List PG} {y1 y2 : Int32} {y3 y4 y5 y6 : Nat → Nat → Int32} {y7 : Nat → Nat} {y8 y9 y10 y11 y12 y13 y14 : Nat → Int32} {ck sk : Nat} {cap2 : Nat} {pk2 : Nat → Int32} {c2 s2 : Nat} {u1 u2 u3 u4 : Int32}
    (hf : F_X3_findFault sg ln ch nu = (-1, nu1, pl1, ch1)) (hk : F_X3_countCommands sg ln = a9) (ec : F_X8_copyFrom ds_t cs_t mp_t pk_t cap_t ds cs mp pk cn sn n tk av lo md = (x1, x2, x3, x4, x5, x6, x7, x8, x9, x10, x11, x12, c1, s1)) (et : F_X10_tryCommands capE PP mc sg ln ch1 nu1 x1 x2 x3 x5 x4 x6 x7 x8 x9 x10 x11 x12 a9 = (0, u1, u2, u3, u4, capE', mc', nu', pl', ch', ds', cs', mp', cap', pk', cn', sn', n', tk', av', lo', md', PP', C, S))
    (ek : F_X4_keep hds hcs hmp hpk hcap hcn hsn hn htk hav hlo hmd hla hct ds cs mp pk cn sn n tk av lo md = (y1, y2, y3, y4, y5, y6, y7, y8, y9, y10, y11, y12, y13, y14, ck, sk)) (ec2 : F_X8_copyFrom ds cs mp pk cap ds' cs' mp' pk' cn' sn' n' tk' av' lo' md' = (ds', cs', mp', cap2, pk2, cn', sn', n', tk', av', lo', md', c2, s2)) :
    ∃ C9 S9, F_L_commands ((ds, cs, mp, pk, cap, cn, sn, n, tk, av, lo, md), (ds_t, cs_t, mp_t, pk_t, cap_t, cn_t, sn_t, n_t, tk_t, av_t, lo_t, md_t), SA9, (hds, hcs, hmp, hpk, hcap, hcn, hsn, hn, htk, hav, hlo, hmd, hla, hct), wc, wd, sg, ln, pl, ch, nu, wb, capw, wl, wn, isv, lf, kk, kr, kd, kr2, kd2, capE, mc, PP) = (a9, ((ds', cs', mp', pk2, cap2, cn', sn', n', tk', av', lo', md'), (ds', cs', mp', pk', cap', cn', sn', n', tk', av', lo', md'), SA9, (y3, y4, y5, y6, y7, y8, y9, y10, y11, y12, y13, y14, y1, y2), wc, wd, sg, 0, pl', ch', nu', wb, capw, wl, wn, isv, -1, kk, kr, kd, kr2, kd2, capE', mc', PP'), C9, S9) ∧ C9 ≤ c1 + C + ck + c2 + 4 ∧ S9 ≤ s1 + S + sk + s2 + 24 := by
  unfold F_L_commands
  rw [show FF_X10_commands ((ds, cs, mp, pk, cap, cn, sn, n, tk, av, lo, md), (ds_t, cs_t, mp_t, pk_t, cap_t, cn_t, sn_t, n_t, tk_t, av_t, lo_t, md_t), SA9, (hds, hcs, hmp, hpk, hcap, hcn, hsn, hn, htk, hav, hlo, hmd, hla, hct), wc, wd, sg, ln, pl, ch, nu, wb, capw, wl, wn, isv, lf, kk, kr, kd, kr2, kd2, capE, mc, PP) = F_X10_commands capE PP mc ds cs mp pk cap cn sn n tk av lo md hds hcs hmp hpk hcap hcn hsn hn htk hav hlo hmd hla hct sg ln ch nu ds_t cs_t mp_t pk_t cap_t cn_t sn_t n_t tk_t av_t lo_t md_t from Eq.refl _]
  unfold F_X10_commands
  rw [hf]
  unfold K_X10_commands_5
  simp only [if_true]
  rw [ec]
  unfold K_X10_commands_53
  simp only [hk, et, if_true]
  rw [ek]
  unfold K_X10_commands_82
  simp only [hk, et]
  rw [ec2]
  unfold K_X10_commands_93
  simp only [hk, et]
  unfold K_L_commands_1
  simp only [if_true, adc]
  exact ⟨_, _, rfl, by omega, by omega⟩
