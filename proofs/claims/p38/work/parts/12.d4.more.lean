theorem R_L_account1 {Bd : Nat} {M : MS} (h : XI Bd M) : 0 ≤ (F_L_account M 1).1.toInt ∧ (F_L_account M 1).1.toInt ≤ 6 := by
  obtain ⟨⟨ds, cs, mp, pk, cap, cn, sn, n, tk, av, lo, md⟩, ⟨ds_t, cs_t, mp_t, pk_t, cap_t, cn_t, sn_t, n_t, tk_t, av_t, lo_t, md_t⟩, ⟨ds_s, cs_s, mp_s, pk_s, cap_s, cn_s, sn_s, n_s, tk_s, av_s, lo_s, md_s⟩, ⟨hds, hcs, hmp, hpk, hcap, hcn, hsn, hn, htk, hav, hlo, hmd, hla, hct⟩, wc, wd, sg, ln, pl, ch, nu, wb, capw, wl, wn, isv, lf, kk, kr, kd, kr2, kd2, capE, mc, PP⟩ := M
  obtain ⟨h0, h1, h2, h3, h4, h5, h6, h7, h8, h9, h10, h11, h12, h13, h14, h15, h16, h17, h18, h19, h20, h21, h22, h23, h24, h25, h26, h27, h28, h29, h30, h31, h32, h33, h34, h35, h36, h37, h38, h39, h40, h41, h42⟩ := h
  exact ⟨h15, h16⟩
