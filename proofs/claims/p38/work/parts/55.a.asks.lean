/-! asks, IN TWO STATES -/
theorem PR.mono {K1 K2 : CR} {P0 : List PG} {a b : Nat} {M1 M2 : MS} (h : PR K1 K2 P0 a M1 M2) (hab : a ≤ b) (hb : b ≤ 900000) : PR K1 K2 P0 b M1 M2 := by
  obtain ⟨⟨g1, g2, z1, z2, x1, b1⟩, ⟨g3, g4, z3, z4, x2, b2⟩, q, hS⟩ := h
  have e : ∀ M : MS, XL a M → XL b M := fun M hx => by
    obtain ⟨⟨ds, cs, mp, pk, cap, cn, sn, n, tk, av, lo, md⟩, ⟨ds_t, cs_t, mp_t, pk_t, cap_t, cn_t, sn_t, n_t, tk_t, av_t, lo_t, md_t⟩, ⟨ds_s, cs_s, mp_s, pk_s, cap_s, cn_s, sn_s, n_s, tk_s, av_s, lo_s, md_s⟩, ⟨hds, hcs, hmp, hpk, hcap, hcn, hsn, hn, htk, hav, hlo, hmd, hla, hct⟩, wc, wd, sg, ln, pl, ch, nu, wb, capw, wl, wn, isv, lf, kk, kr, kd, kr2, kd2, capE, mc, PP⟩ := M
    exact ⟨Nat.le_trans hx.1 hab, hx.2⟩
  exact ⟨⟨g1, g2, z1, z2, e _ x1, hb⟩, ⟨g3, g4, z3, z4, e _ x2, hb⟩, q, hS⟩
theorem RQ.mono {α : Type} {K1 K2 : CR} {P0 : List PG} {Bd c s c' s' : Nat} {M1 M2 : MS} {r1 r2 : α × MS × Nat × Nat} (h : RQ K1 K2 P0 Bd c s M1 M2 r1 r2) (hc : c ≤ c') (hs : s ≤ s') : RQ K1 K2 P0 Bd c' s' M1 M2 r1 r2 := by
  obtain ⟨h1, h2, ⟨h3, h4⟩, ⟨h5, h6⟩⟩ := h
  exact ⟨h1, h2, ⟨by omega, by omega⟩, ⟨by omega, by omega⟩⟩
theorem RQ.bind {α β : Type} {K1 K2 : CR} {P0 : List PG} {Bd Bd' c s c' s' : Nat} {M1 M2 : MS} {r1 r2 : α × MS × Nat × Nat} (f : α → MS → β × MS × Nat × Nat) (h : RQ K1 K2 P0 Bd c s M1 M2 r1 r2) (hk : ∀ v N1 N2, PR K1 K2 P0 Bd N1 N2 → RQ K1 K2 P0 Bd' c' s' N1 N2 (f v N1) (f v N2)) : RQ K1 K2 P0 Bd' (c + c') (s + s') M1 M2 (adc r1.2.2.1 r1.2.2.2 (f r1.1 r1.2.1)) (adc r2.2.2.1 r2.2.2.2 (f r2.1 r2.2.1)) := by
  obtain ⟨h1, h2, ⟨h3, h4⟩, ⟨h5, h6⟩⟩ := h
  rw [← h1]
  obtain ⟨k1, k2, ⟨k3, k4⟩, ⟨k5, k6⟩⟩ := hk r1.1 r1.2.1 r2.2.1 h2
  refine ⟨k1, k2, ⟨?_, ?_⟩, ⟨?_, ?_⟩⟩
  · show r1.2.2.2 + (f r1.1 r1.2.1).2.2.2 + PHI M1 ≤ s + s' + PHI (f r1.1 r1.2.1).2.1
    omega
  · show 320 * (r1.2.2.1 + (f r1.1 r1.2.1).2.2.1) + PHC M1 ≤ 320 * (c + c') + PHC (f r1.1 r1.2.1).2.1
    omega
  · show r2.2.2.2 + (f r1.1 r2.2.1).2.2.2 + PHI M2 ≤ s + s' + PHI (f r1.1 r2.2.1).2.1
    omega
  · show 320 * (r2.2.2.1 + (f r1.1 r2.2.1).2.2.1) + PHC M2 ≤ 320 * (c + c') + PHC (f r1.1 r2.2.1).2.1
    omega
theorem rq_end {α : Type} {K1 K2 : CR} {P0 : List PG} {Bd c s : Nat} {M1 M2 : MS} (h : PR K1 K2 P0 Bd M1 M2) (v : α) : RQ K1 K2 P0 Bd c s M1 M2 (v, M1, 0, 0) (v, M2, 0, 0) :=
  ⟨rfl, h, ⟨by show 0 + PHI M1 ≤ s + PHI M1; omega, by show 320 * 0 + PHC M1 ≤ 320 * c + PHC M1; omega⟩, ⟨by show 0 + PHI M2 ≤ s + PHI M2; omega, by show 320 * 0 + PHC M2 ≤ 320 * c + PHC M2; omega⟩⟩
def KB_L_asks_458 (x402_1 : Int64) (y458_0 : Int32) (y458_1 : MS) : Int64 × MS × Nat × Nat := ((((31 : Int64) * x402_1) + (Int32.toInt64 y458_0)), y458_1, 0, 0)
theorem kb_L_asks_458 (x402_1 : Int64) (r : Int32 × MS × Nat × Nat) : K_L_asks_458 x402_1 r = adc r.2.2.1 r.2.2.2 (KB_L_asks_458 x402_1 r.1 r.2.1) := by
  obtain ⟨_, _, _, _⟩ := r
  rfl
def KB_L_asks_440 (x402_1 : Int64) (x402_4 : Int32) (rc_402 : Int64 → Int32 → MS → (Int64 × MS × Nat × Nat)) (y422_0 : Int32) (y431_0 : Int32) (y440_0 : Int32) (y440_1 : MS) : Int64 × MS × Nat × Nat := (rc_402 (((31 : Int64) * (((31 : Int64) * (((31 : Int64) * x402_1) + (Int32.toInt64 y422_0))) + (Int32.toInt64 y431_0))) + (Int32.toInt64 y440_0)) (x402_4 + 1) y440_1)
theorem kb_L_asks_440 (x402_1 : Int64) (x402_4 : Int32) (rc_402 : Int64 → Int32 → MS → (Int64 × MS × Nat × Nat)) (y422_0 : Int32) (y431_0 : Int32) (r : Int32 × MS × Nat × Nat) : K_L_asks_440 x402_1 x402_4 rc_402 y422_0 y431_0 r = adc r.2.2.1 r.2.2.2 (KB_L_asks_440 x402_1 x402_4 rc_402 y422_0 y431_0 r.1 r.2.1) := by
  obtain ⟨_, _, _, _⟩ := r
  rfl
def KB_L_asks_431 (x402_1 : Int64) (x402_4 : Int32) (rc_402 : Int64 → Int32 → MS → (Int64 × MS × Nat × Nat)) (y422_0 : Int32) (y431_0 : Int32) (y431_1 : MS) : Int64 × MS × Nat × Nat := (K_L_asks_440 x402_1 x402_4 rc_402 y422_0 y431_0 (F_L_members y431_1 x402_4))
theorem kb_L_asks_431 (x402_1 : Int64) (x402_4 : Int32) (rc_402 : Int64 → Int32 → MS → (Int64 × MS × Nat × Nat)) (y422_0 : Int32) (r : Int32 × MS × Nat × Nat) : K_L_asks_431 x402_1 x402_4 rc_402 y422_0 r = adc r.2.2.1 r.2.2.2 (KB_L_asks_431 x402_1 x402_4 rc_402 y422_0 r.1 r.2.1) := by
  obtain ⟨_, _, _, _⟩ := r
  rfl
def KB_L_asks_422 (x402_1 : Int64) (x402_4 : Int32) (rc_402 : Int64 → Int32 → MS → (Int64 × MS × Nat × Nat)) (y422_0 : Int32) (y422_1 : MS) : Int64 × MS × Nat × Nat := (K_L_asks_431 x402_1 x402_4 rc_402 y422_0 (F_L_agreeAgain y422_1 x402_4))
theorem kb_L_asks_422 (x402_1 : Int64) (x402_4 : Int32) (rc_402 : Int64 → Int32 → MS → (Int64 × MS × Nat × Nat)) (r : Int32 × MS × Nat × Nat) : K_L_asks_422 x402_1 x402_4 rc_402 r = adc r.2.2.1 r.2.2.2 (KB_L_asks_422 x402_1 x402_4 rc_402 r.1 r.2.1) := by
  obtain ⟨_, _, _, _⟩ := r
  rfl
def KB_L_asks_381 (x365_1 : Int64) (x365_5 : Int32) (rc_365 : Int64 → Int32 → MS → (Int64 × MS × Nat × Nat)) (y381_0 : Int32) (y381_1 : MS) : Int64 × MS × Nat × Nat := (rc_365 (((31 : Int64) * x365_1) + (Int32.toInt64 y381_0)) (x365_5 + 1) y381_1)
theorem kb_L_asks_381 (x365_1 : Int64) (x365_5 : Int32) (rc_365 : Int64 → Int32 → MS → (Int64 × MS × Nat × Nat)) (r : Int32 × MS × Nat × Nat) : K_L_asks_381 x365_1 x365_5 rc_365 r = adc r.2.2.1 r.2.2.2 (KB_L_asks_381 x365_1 x365_5 rc_365 r.1 r.2.1) := by
  obtain ⟨_, _, _, _⟩ := r
  rfl
def KB_L_asks_353 (x347_1 : Int64) (x347_4 : Int32) (rc_347 : Int64 → Int32 → MS → (Int64 × MS × Nat × Nat)) (y353_0 : Int32) (y353_1 : MS) : Int64 × MS × Nat × Nat := (if (inI 30 y353_0) ≤ x347_4 then (L_L_asks_402 (((3 : Int32).toInt - (0 : Int32).toInt).toNat + 1) x347_1 0 y353_1) else (L_L_asks_365 x347_4 rc_347 (((4 : Int32).toInt - (0 : Int32).toInt).toNat + 1) x347_1 0 y353_1))
theorem kb_L_asks_353 (x347_1 : Int64) (x347_4 : Int32) (rc_347 : Int64 → Int32 → MS → (Int64 × MS × Nat × Nat)) (r : Int32 × MS × Nat × Nat) : K_L_asks_353 x347_1 x347_4 rc_347 r = adc r.2.2.1 r.2.2.2 (KB_L_asks_353 x347_1 x347_4 rc_347 r.1 r.2.1) := by
  obtain ⟨_, _, _, _⟩ := r
  rfl
def KB_L_asks_326 (x311_1 : Int64) (x311_6 : Int32) (rc_311 : Int64 → Int32 → MS → (Int64 × MS × Nat × Nat)) (y326_0 : Int32) (y326_1 : MS) : Int64 × MS × Nat × Nat := (rc_311 (((31 : Int64) * x311_1) + (Int32.toInt64 y326_0)) (x311_6 + 1) y326_1)
theorem kb_L_asks_326 (x311_1 : Int64) (x311_6 : Int32) (rc_311 : Int64 → Int32 → MS → (Int64 × MS × Nat × Nat)) (r : Int32 × MS × Nat × Nat) : K_L_asks_326 x311_1 x311_6 rc_311 r = adc r.2.2.1 r.2.2.2 (KB_L_asks_326 x311_1 x311_6 rc_311 r.1 r.2.1) := by
  obtain ⟨_, _, _, _⟩ := r
  rfl
def KB_L_asks_303 (x57_4 : Int32) (rc_57 : Int64 → Int32 → MS → (Int64 × MS × Nat × Nat)) (x98_1 : Int64) (y276_0 : Int32) (y285_0 : Int32) (y294_0 : Int32) (y303_0 : Int32) (y303_1 : MS) : Int64 × MS × Nat × Nat := (L_L_asks_311 x57_4 rc_57 y303_0 (((y303_0 : Int32).toInt - (0 : Int32).toInt).toNat + 1) (((31 : Int64) * (((31 : Int64) * (((31 : Int64) * x98_1) + (Int32.toInt64 y276_0))) + (Int32.toInt64 y285_0))) + (Int32.toInt64 y294_0)) 0 y303_1)
theorem kb_L_asks_303 (x57_4 : Int32) (rc_57 : Int64 → Int32 → MS → (Int64 × MS × Nat × Nat)) (x98_1 : Int64) (y276_0 : Int32) (y285_0 : Int32) (y294_0 : Int32) (r : Int32 × MS × Nat × Nat) : K_L_asks_303 x57_4 rc_57 x98_1 y276_0 y285_0 y294_0 r = adc r.2.2.1 r.2.2.2 (KB_L_asks_303 x57_4 rc_57 x98_1 y276_0 y285_0 y294_0 r.1 r.2.1) := by
  obtain ⟨_, _, _, _⟩ := r
  rfl
def KB_L_asks_294 (x57_4 : Int32) (rc_57 : Int64 → Int32 → MS → (Int64 × MS × Nat × Nat)) (x98_1 : Int64) (y276_0 : Int32) (y285_0 : Int32) (y294_0 : Int32) (y294_1 : MS) : Int64 × MS × Nat × Nat := (K_L_asks_303 x57_4 rc_57 x98_1 y276_0 y285_0 y294_0 (F_L_line y294_1 x57_4))
theorem kb_L_asks_294 (x57_4 : Int32) (rc_57 : Int64 → Int32 → MS → (Int64 × MS × Nat × Nat)) (x98_1 : Int64) (y276_0 : Int32) (y285_0 : Int32) (r : Int32 × MS × Nat × Nat) : K_L_asks_294 x57_4 rc_57 x98_1 y276_0 y285_0 r = adc r.2.2.1 r.2.2.2 (KB_L_asks_294 x57_4 rc_57 x98_1 y276_0 y285_0 r.1 r.2.1) := by
  obtain ⟨_, _, _, _⟩ := r
  rfl
def KB_L_asks_285 (x57_4 : Int32) (rc_57 : Int64 → Int32 → MS → (Int64 × MS × Nat × Nat)) (x98_1 : Int64) (y276_0 : Int32) (y285_0 : Int32) (y285_1 : MS) : Int64 × MS × Nat × Nat := (K_L_asks_294 x57_4 rc_57 x98_1 y276_0 y285_0 (F_L_busiest y285_1 x57_4))
theorem kb_L_asks_285 (x57_4 : Int32) (rc_57 : Int64 → Int32 → MS → (Int64 × MS × Nat × Nat)) (x98_1 : Int64) (y276_0 : Int32) (r : Int32 × MS × Nat × Nat) : K_L_asks_285 x57_4 rc_57 x98_1 y276_0 r = adc r.2.2.1 r.2.2.2 (KB_L_asks_285 x57_4 rc_57 x98_1 y276_0 r.1 r.2.1) := by
  obtain ⟨_, _, _, _⟩ := r
  rfl
def KB_L_asks_276 (x57_4 : Int32) (rc_57 : Int64 → Int32 → MS → (Int64 × MS × Nat × Nat)) (x98_1 : Int64) (y276_0 : Int32) (y276_1 : MS) : Int64 × MS × Nat × Nat := (K_L_asks_285 x57_4 rc_57 x98_1 y276_0 (F_L_right y276_1 x57_4))
theorem kb_L_asks_276 (x57_4 : Int32) (rc_57 : Int64 → Int32 → MS → (Int64 × MS × Nat × Nat)) (x98_1 : Int64) (r : Int32 × MS × Nat × Nat) : K_L_asks_276 x57_4 rc_57 x98_1 r = adc r.2.2.1 r.2.2.2 (KB_L_asks_276 x57_4 rc_57 x98_1 r.1 r.2.1) := by
  obtain ⟨_, _, _, _⟩ := r
  rfl
def KB_L_asks_244 (x226_1 : Int64) (x226_6 : Int32) (rc_226 : Int64 → Int32 → MS → (Int64 × MS × Nat × Nat)) (y244_0 : Int32) (y244_1 : MS) : Int64 × MS × Nat × Nat := (rc_226 (((31 : Int64) * x226_1) + (Int32.toInt64 y244_0)) (x226_6 + 1) y244_1)
theorem kb_L_asks_244 (x226_1 : Int64) (x226_6 : Int32) (rc_226 : Int64 → Int32 → MS → (Int64 × MS × Nat × Nat)) (r : Int32 × MS × Nat × Nat) : K_L_asks_244 x226_1 x226_6 rc_226 r = adc r.2.2.1 r.2.2.2 (KB_L_asks_244 x226_1 x226_6 rc_226 r.1 r.2.1) := by
  obtain ⟨_, _, _, _⟩ := r
  rfl
def KB_L_asks_211 (x193_1 : Int64) (x193_6 : Int32) (rc_193 : Int64 → Int32 → MS → (Int64 × MS × Nat × Nat)) (y211_0 : Int32) (y211_1 : MS) : Int64 × MS × Nat × Nat := (rc_193 (((31 : Int64) * x193_1) + (Int32.toInt64 y211_0)) (x193_6 + 1) y211_1)
theorem kb_L_asks_211 (x193_1 : Int64) (x193_6 : Int32) (rc_193 : Int64 → Int32 → MS → (Int64 × MS × Nat × Nat)) (r : Int32 × MS × Nat × Nat) : K_L_asks_211 x193_1 x193_6 rc_193 r = adc r.2.2.1 r.2.2.2 (KB_L_asks_211 x193_1 x193_6 rc_193 r.1 r.2.1) := by
  obtain ⟨_, _, _, _⟩ := r
  rfl
def KB_L_asks_184 (y50_0 : Int32) (x57_4 : Int32) (x98_1 : Int64) (x98_5 : Int32) (rc_98 : Int64 → Int32 → MS → (Int64 × MS × Nat × Nat)) (y129_0 : Int32) (y140_0 : Int32) (y151_0 : Int32) (y162_0 : Int32) (y173_0 : Int32) (y184_0 : Int32) (y184_1 : MS) : Int64 × MS × Nat × Nat := (L_L_asks_193 y50_0 x57_4 x98_5 rc_98 (((3 : Int32).toInt - (0 : Int32).toInt).toNat + 1) (((31 : Int64) * (((31 : Int64) * (((31 : Int64) * (((31 : Int64) * (((31 : Int64) * (((31 : Int64) * x98_1) + (Int32.toInt64 y129_0))) + (Int32.toInt64 y140_0))) + (Int32.toInt64 y151_0))) + (Int32.toInt64 y162_0))) + (Int32.toInt64 y173_0))) + (Int32.toInt64 y184_0)) 0 y184_1)
theorem kb_L_asks_184 (y50_0 : Int32) (x57_4 : Int32) (x98_1 : Int64) (x98_5 : Int32) (rc_98 : Int64 → Int32 → MS → (Int64 × MS × Nat × Nat)) (y129_0 : Int32) (y140_0 : Int32) (y151_0 : Int32) (y162_0 : Int32) (y173_0 : Int32) (r : Int32 × MS × Nat × Nat) : K_L_asks_184 y50_0 x57_4 x98_1 x98_5 rc_98 y129_0 y140_0 y151_0 y162_0 y173_0 r = adc r.2.2.1 r.2.2.2 (KB_L_asks_184 y50_0 x57_4 x98_1 x98_5 rc_98 y129_0 y140_0 y151_0 y162_0 y173_0 r.1 r.2.1) := by
  obtain ⟨_, _, _, _⟩ := r
  rfl
def KB_L_asks_173 (y50_0 : Int32) (x57_4 : Int32) (x98_1 : Int64) (x98_5 : Int32) (rc_98 : Int64 → Int32 → MS → (Int64 × MS × Nat × Nat)) (y129_0 : Int32) (y140_0 : Int32) (y151_0 : Int32) (y162_0 : Int32) (y173_0 : Int32) (y173_1 : MS) : Int64 × MS × Nat × Nat := (K_L_asks_184 y50_0 x57_4 x98_1 x98_5 rc_98 y129_0 y140_0 y151_0 y162_0 y173_0 (F_L_real y173_1 x57_4 x98_5))
theorem kb_L_asks_173 (y50_0 : Int32) (x57_4 : Int32) (x98_1 : Int64) (x98_5 : Int32) (rc_98 : Int64 → Int32 → MS → (Int64 × MS × Nat × Nat)) (y129_0 : Int32) (y140_0 : Int32) (y151_0 : Int32) (y162_0 : Int32) (r : Int32 × MS × Nat × Nat) : K_L_asks_173 y50_0 x57_4 x98_1 x98_5 rc_98 y129_0 y140_0 y151_0 y162_0 r = adc r.2.2.1 r.2.2.2 (KB_L_asks_173 y50_0 x57_4 x98_1 x98_5 rc_98 y129_0 y140_0 y151_0 y162_0 r.1 r.2.1) := by
  obtain ⟨_, _, _, _⟩ := r
  rfl
def KB_L_asks_162 (y50_0 : Int32) (x57_4 : Int32) (x98_1 : Int64) (x98_5 : Int32) (rc_98 : Int64 → Int32 → MS → (Int64 × MS × Nat × Nat)) (y129_0 : Int32) (y140_0 : Int32) (y151_0 : Int32) (y162_0 : Int32) (y162_1 : MS) : Int64 × MS × Nat × Nat := (K_L_asks_173 y50_0 x57_4 x98_1 x98_5 rc_98 y129_0 y140_0 y151_0 y162_0 (F_L_follow y162_1 x57_4 x98_5))
theorem kb_L_asks_162 (y50_0 : Int32) (x57_4 : Int32) (x98_1 : Int64) (x98_5 : Int32) (rc_98 : Int64 → Int32 → MS → (Int64 × MS × Nat × Nat)) (y129_0 : Int32) (y140_0 : Int32) (y151_0 : Int32) (r : Int32 × MS × Nat × Nat) : K_L_asks_162 y50_0 x57_4 x98_1 x98_5 rc_98 y129_0 y140_0 y151_0 r = adc r.2.2.1 r.2.2.2 (KB_L_asks_162 y50_0 x57_4 x98_1 x98_5 rc_98 y129_0 y140_0 y151_0 r.1 r.2.1) := by
  obtain ⟨_, _, _, _⟩ := r
  rfl
def KB_L_asks_151 (y50_0 : Int32) (x57_4 : Int32) (x98_1 : Int64) (x98_5 : Int32) (rc_98 : Int64 → Int32 → MS → (Int64 × MS × Nat × Nat)) (y129_0 : Int32) (y140_0 : Int32) (y151_0 : Int32) (y151_1 : MS) : Int64 × MS × Nat × Nat := (K_L_asks_162 y50_0 x57_4 x98_1 x98_5 rc_98 y129_0 y140_0 y151_0 (F_L_next y151_1 x57_4 x98_5))
theorem kb_L_asks_151 (y50_0 : Int32) (x57_4 : Int32) (x98_1 : Int64) (x98_5 : Int32) (rc_98 : Int64 → Int32 → MS → (Int64 × MS × Nat × Nat)) (y129_0 : Int32) (y140_0 : Int32) (r : Int32 × MS × Nat × Nat) : K_L_asks_151 y50_0 x57_4 x98_1 x98_5 rc_98 y129_0 y140_0 r = adc r.2.2.1 r.2.2.2 (KB_L_asks_151 y50_0 x57_4 x98_1 x98_5 rc_98 y129_0 y140_0 r.1 r.2.1) := by
  obtain ⟨_, _, _, _⟩ := r
  rfl
def KB_L_asks_140 (y50_0 : Int32) (x57_4 : Int32) (x98_1 : Int64) (x98_5 : Int32) (rc_98 : Int64 → Int32 → MS → (Int64 × MS × Nat × Nat)) (y129_0 : Int32) (y140_0 : Int32) (y140_1 : MS) : Int64 × MS × Nat × Nat := (K_L_asks_151 y50_0 x57_4 x98_1 x98_5 rc_98 y129_0 y140_0 (F_L_distanceAgain y140_1 x57_4 x98_5))
theorem kb_L_asks_140 (y50_0 : Int32) (x57_4 : Int32) (x98_1 : Int64) (x98_5 : Int32) (rc_98 : Int64 → Int32 → MS → (Int64 × MS × Nat × Nat)) (y129_0 : Int32) (r : Int32 × MS × Nat × Nat) : K_L_asks_140 y50_0 x57_4 x98_1 x98_5 rc_98 y129_0 r = adc r.2.2.1 r.2.2.2 (KB_L_asks_140 y50_0 x57_4 x98_1 x98_5 rc_98 y129_0 r.1 r.2.1) := by
  obtain ⟨_, _, _, _⟩ := r
  rfl
def KB_L_asks_129 (y50_0 : Int32) (x57_4 : Int32) (x98_1 : Int64) (x98_5 : Int32) (rc_98 : Int64 → Int32 → MS → (Int64 × MS × Nat × Nat)) (y129_0 : Int32) (y129_1 : MS) : Int64 × MS × Nat × Nat := (K_L_asks_140 y50_0 x57_4 x98_1 x98_5 rc_98 y129_0 (F_L_distance y129_1 x57_4 x98_5))
theorem kb_L_asks_129 (y50_0 : Int32) (x57_4 : Int32) (x98_1 : Int64) (x98_5 : Int32) (rc_98 : Int64 → Int32 → MS → (Int64 × MS × Nat × Nat)) (r : Int32 × MS × Nat × Nat) : K_L_asks_129 y50_0 x57_4 x98_1 x98_5 rc_98 r = adc r.2.2.1 r.2.2.2 (KB_L_asks_129 y50_0 x57_4 x98_1 x98_5 rc_98 r.1 r.2.1) := by
  obtain ⟨_, _, _, _⟩ := r
  rfl
def KB_L_asks_83 (x66_1 : Int64) (x66_5 : Int32) (rc_66 : Int64 → Int32 → MS → (Int64 × MS × Nat × Nat)) (y83_0 : Int32) (y83_1 : MS) : Int64 × MS × Nat × Nat := (rc_66 (((31 : Int64) * x66_1) + (Int32.toInt64 y83_0)) (x66_5 + 1) y83_1)
theorem kb_L_asks_83 (x66_1 : Int64) (x66_5 : Int32) (rc_66 : Int64 → Int32 → MS → (Int64 × MS × Nat × Nat)) (r : Int32 × MS × Nat × Nat) : K_L_asks_83 x66_1 x66_5 rc_66 r = adc r.2.2.1 r.2.2.2 (KB_L_asks_83 x66_1 x66_5 rc_66 r.1 r.2.1) := by
  obtain ⟨_, _, _, _⟩ := r
  rfl
def KB_L_asks_50 (x23_1 : Int64) (y50_0 : Int32) (y50_1 : MS) : Int64 × MS × Nat × Nat := (L_L_asks_57 y50_0 (((y50_0 : Int32).toInt - (0 : Int32).toInt).toNat + 1) x23_1 0 y50_1)
theorem kb_L_asks_50 (x23_1 : Int64) (r : Int32 × MS × Nat × Nat) : K_L_asks_50 x23_1 r = adc r.2.2.1 r.2.2.2 (KB_L_asks_50 x23_1 r.1 r.2.1) := by
  obtain ⟨_, _, _, _⟩ := r
  rfl
def KB_L_asks_36 (x23_1 : Int64) (x23_3 : Int32) (rc_23 : Int64 → Int32 → MS → (Int64 × MS × Nat × Nat)) (y36_0 : Int32) (y36_1 : MS) : Int64 × MS × Nat × Nat := (rc_23 (((31 : Int64) * x23_1) + (Int32.toInt64 y36_0)) (x23_3 + 1) y36_1)
theorem kb_L_asks_36 (x23_1 : Int64) (x23_3 : Int32) (rc_23 : Int64 → Int32 → MS → (Int64 × MS × Nat × Nat)) (r : Int32 × MS × Nat × Nat) : K_L_asks_36 x23_1 x23_3 rc_23 r = adc r.2.2.1 r.2.2.2 (KB_L_asks_36 x23_1 x23_3 rc_23 r.1 r.2.1) := by
  obtain ⟨_, _, _, _⟩ := r
  rfl
def KB_L_asks_12 (y4_0 : UInt64) (y12_0 : UInt32) (y12_1 : MS) : Int64 × MS × Nat × Nat := (L_L_asks_23 (((9 : Int32).toInt - (0 : Int32).toInt).toNat + 1) (((31 : Int64) * (F_Jxe99ae_doubleToLongBits_ccdee y4_0)) + (Int32.toInt64 (F_Jxf58ca_floatToIntBits_5c35a y12_0))) 0 y12_1)
theorem kb_L_asks_12 (y4_0 : UInt64) (r : UInt32 × MS × Nat × Nat) : K_L_asks_12 y4_0 r = adc r.2.2.1 r.2.2.2 (KB_L_asks_12 y4_0 r.1 r.2.1) := by
  obtain ⟨_, _, _, _⟩ := r
  rfl
def KB_L_asks_4  (y4_0 : UInt64) (y4_1 : MS) : Int64 × MS × Nat × Nat := (K_L_asks_12 y4_0 (F_L_lostShare y4_1))
theorem kb_L_asks_4  (r : UInt64 × MS × Nat × Nat) : K_L_asks_4  r = adc r.2.2.1 r.2.2.2 (KB_L_asks_4  r.1 r.2.1) := by
  obtain ⟨_, _, _, _⟩ := r
  rfl
set_option maxHeartbeats 1000000 in
set_option maxRecDepth 100000 in
theorem as_402 {K1 K2 : CR} {P0 : List PG} {Bd : Nat} (hBd : Bd + 600 ≤ 900000) : ∀ (k : Nat) (x : Int64) (i : Int32) (N1 N2 : MS), PR K1 K2 P0 Bd N1 N2 → RQ K1 K2 P0 (Bd + 600) (1 + 3 * k) (6 + 18 * k) N1 N2 (L_L_asks_402 k x i N1) (L_L_asks_402 k x i N2) := by
  intro k
  induction k with
  | zero => intro x i N1 N2 hN; exact rq_end (PR.mono hN (by omega) hBd) _
  | succ k ih =>
    intro x i N1 N2 hN
    show RQ K1 K2 P0 (Bd + 600) _ _ N1 N2 (B_L_asks_402 (L_L_asks_402 k) x i N1) (B_L_asks_402 (L_L_asks_402 k) x i N2)
    unfold B_L_asks_402
    by_cases c : 3 ≤ i
    · rw [if_pos c, if_pos c, kb_L_asks_458, kb_L_asks_458]
      exact RQ.mono (RQ.bind (KB_L_asks_458 x) (qa_settledIn hN hBd) (fun v A B hAB => rq_end (c := 0) (s := 0) hAB _)) (by omega) (by omega)
    · rw [if_neg c, if_neg c, kb_L_asks_422, kb_L_asks_422]
      refine RQ.mono (RQ.bind (KB_L_asks_422 x i _) (qa_agree hN i) (fun v A B hAB => ?_)) (by omega) (by omega) (c := 1 + (1 + (1 + (1 + 3 * k)))) (s := 6 + (6 + (6 + (6 + 18 * k))))
      unfold KB_L_asks_422
      rw [kb_L_asks_431, kb_L_asks_431]
      refine RQ.bind (KB_L_asks_431 x i _ v) (qa_agreeAgain hAB i) (fun v2 A B hAB => ?_)
      unfold KB_L_asks_431
      rw [kb_L_asks_440, kb_L_asks_440]
      refine RQ.bind (KB_L_asks_440 x i _ v v2) (qa_members hAB i) (fun v3 A B hAB => ?_)
      exact ih _ _ A B hAB
set_option maxHeartbeats 1000000 in
set_option maxRecDepth 100000 in
theorem as_365 {K1 K2 : CR} {P0 : List PG} {Bd : Nat} (hBd : Bd + 600 ≤ 900000) {cr sr : Nat} {rc : Int64 → Int32 → MS → (Int64 × MS × Nat × Nat)} (hrc : ∀ x i N1 N2, PR K1 K2 P0 Bd N1 N2 → RQ K1 K2 P0 (Bd + 600) cr sr N1 N2 (rc x i N1) (rc x i N2)) (p : Int32) : ∀ (k : Nat) (x : Int64) (i : Int32) (N1 N2 : MS), PR K1 K2 P0 Bd N1 N2 → RQ K1 K2 P0 (Bd + 600) (cr + 1 * k) (sr + 6 * k) N1 N2 (L_L_asks_365 p rc k x i N1) (L_L_asks_365 p rc k x i N2) := by
  intro k
  induction k with
  | zero => intro x i N1 N2 hN; exact rq_end (PR.mono hN (by omega) hBd) _
  | succ k ih =>
    intro x i N1 N2 hN
    show RQ K1 K2 P0 (Bd + 600) _ _ N1 N2 (B_L_asks_365 p rc (L_L_asks_365 p rc k) x i N1) (B_L_asks_365 p rc (L_L_asks_365 p rc k) x i N2)
    unfold B_L_asks_365
    by_cases c : 4 ≤ i
    · rw [if_pos c, if_pos c]
      exact RQ.mono (hrc _ _ _ _ hN) (by omega) (by omega)
    · rw [if_neg c, if_neg c, kb_L_asks_381, kb_L_asks_381]
      refine RQ.mono (RQ.bind (KB_L_asks_381 x i _) (qa_letter hN p i) (fun v A B hAB => ?_)) (by omega) (by omega) (c := 1 + (cr + 1 * k)) (s := 6 + (sr + 6 * k))
      exact ih _ _ A B hAB
set_option maxHeartbeats 1000000 in
set_option maxRecDepth 100000 in
theorem as_347 {K1 K2 : CR} {P0 : List PG} {Bd : Nat} (hBd : Bd + 600 ≤ 900000) : ∀ (k : Nat) (x : Int64) (i : Int32) (N1 N2 : MS), PR K1 K2 P0 Bd N1 N2 → RQ K1 K2 P0 (Bd + 600) (13 + 6 * k) (78 + 36 * k) N1 N2 (L_L_asks_347 k x i N1) (L_L_asks_347 k x i N2) := by
  intro k
  induction k with
  | zero => intro x i N1 N2 hN; exact rq_end (PR.mono hN (by omega) hBd) _
  | succ k ih =>
    intro x i N1 N2 hN
    show RQ K1 K2 P0 (Bd + 600) _ _ N1 N2 (B_L_asks_347 (L_L_asks_347 k) x i N1) (B_L_asks_347 (L_L_asks_347 k) x i N2)
    unfold B_L_asks_347
    rw [kb_L_asks_353, kb_L_asks_353]
    refine RQ.mono (RQ.bind (KB_L_asks_353 x i _) (qa_account hN (a1 := 3) (by decide) (by decide)) (fun v A B hAB => ?_)) (by omega) (by omega) (c := 1 + (13 + 6 * k + 5)) (s := 6 + (78 + 36 * k + 30))
    unfold KB_L_asks_353
    by_cases c : inI 30 v ≤ i
    · rw [if_pos c, if_pos c]
      have f : (((3 : Int32).toInt - (0 : Int32).toInt).toNat + 1) = 4 := by decide
      rw [f]
      exact RQ.mono (as_402 hBd 4 x 0 A B hAB) (by omega) (by omega)
    · rw [if_neg c, if_neg c]
      have f : (((4 : Int32).toInt - (0 : Int32).toInt).toNat + 1) = 5 := by decide
      rw [f]
      exact RQ.mono (as_365 hBd (fun x i A B hh => ih x i A B hh) i 5 x 0 A B hAB) (by omega) (by omega)
set_option maxHeartbeats 1000000 in
set_option maxRecDepth 100000 in
theorem as_311 {K1 K2 : CR} {P0 : List PG} {Bd : Nat} (hBd : Bd + 600 ≤ 900000) (p : Int32) {cr sr : Nat} {rc : Int64 → Int32 → MS → (Int64 × MS × Nat × Nat)} (hrc : ∀ x N1 N2, PR K1 K2 P0 Bd N1 N2 → RQ K1 K2 P0 (Bd + 600) cr sr N1 N2 (rc x (p + 1) N1) (rc x (p + 1) N2)) (v : Int32) : ∀ (k : Nat) (x : Int64) (i : Int32) (N1 N2 : MS), PR K1 K2 P0 Bd N1 N2 → TXR N1 N2 v → RQ K1 K2 P0 (Bd + 600) (cr + 1 * k) (sr + 6 * k) N1 N2 (L_L_asks_311 p rc v k x i N1) (L_L_asks_311 p rc v k x i N2) := by
  intro k
  induction k with
  | zero => intro x i N1 N2 hN hT; exact rq_end (PR.mono hN (by omega) hBd) _
  | succ k ih =>
    intro x i N1 N2 hN hT
    show RQ K1 K2 P0 (Bd + 600) _ _ N1 N2 (B_L_asks_311 p rc v (L_L_asks_311 p rc v k) x i N1) (B_L_asks_311 p rc v (L_L_asks_311 p rc v k) x i N2)
    unfold B_L_asks_311
    by_cases c : v ≤ i
    · rw [if_pos c, if_pos c]
      exact RQ.mono (hrc _ _ _ hN) (by omega) (by omega)
    · rw [if_neg c, if_neg c, kb_L_asks_326, kb_L_asks_326]
      obtain ⟨w1, w2, w3⟩ := qa_character hN (a1 := i) hT
      have e : ∀ (f : Int32 → MS → (Int64 × MS × Nat × Nat)), (∀ u, RQ K1 K2 P0 (Bd + 600) (cr + 1 * k) (sr + 6 * k) N1 N2 (f u N1) (f u N2)) → RQ K1 K2 P0 (Bd + 600) (1 + (cr + 1 * k)) (6 + (sr + 6 * k)) N1 N2 (adc (F_L_character N1 i).2.2.1 (F_L_character N1 i).2.2.2 (f (F_L_character N1 i).1 (F_L_character N1 i).2.1)) (adc (F_L_character N2 i).2.2.1 (F_L_character N2 i).2.2.2 (f (F_L_character N2 i).1 (F_L_character N2 i).2.1)) := by
        intro f hf
        obtain ⟨h1, h2, ⟨h3, h4⟩, ⟨h5, h6⟩⟩ := w1
        rw [← h1, w2, w3]
        rw [w2] at h3 h4
        rw [w3] at h5 h6
        obtain ⟨k1, k2, ⟨k3, k4⟩, ⟨k5, k6⟩⟩ := hf (F_L_character N1 i).1
        refine ⟨k1, k2, ⟨?_, ?_⟩, ⟨?_, ?_⟩⟩
        · show (F_L_character N1 i).2.2.2 + (f (F_L_character N1 i).1 N1).2.2.2 + PHI N1 ≤ 6 + (sr + 6 * k) + PHI (f (F_L_character N1 i).1 N1).2.1
          omega
        · show 320 * ((F_L_character N1 i).2.2.1 + (f (F_L_character N1 i).1 N1).2.2.1) + PHC N1 ≤ 320 * (1 + (cr + 1 * k)) + PHC (f (F_L_character N1 i).1 N1).2.1
          omega
        · show (F_L_character N2 i).2.2.2 + (f (F_L_character N1 i).1 N2).2.2.2 + PHI N2 ≤ 6 + (sr + 6 * k) + PHI (f (F_L_character N1 i).1 N2).2.1
          omega
        · show 320 * ((F_L_character N2 i).2.2.1 + (f (F_L_character N1 i).1 N2).2.2.1) + PHC N2 ≤ 320 * (1 + (cr + 1 * k)) + PHC (f (F_L_character N1 i).1 N2).2.1
          omega
      refine RQ.mono (e (KB_L_asks_326 x i _) (fun u => ?_)) (by omega) (by omega)
      exact ih _ _ N1 N2 hN hT
set_option maxHeartbeats 1000000 in
set_option maxRecDepth 100000 in
theorem as_226 {K1 K2 : CR} {P0 : List PG} {Bd : Nat} (hBd : Bd + 600 ≤ 900000) {cr sr : Nat} {rc : Int64 → Int32 → MS → (Int64 × MS × Nat × Nat)} (hrc : ∀ x i N1 N2, PR K1 K2 P0 Bd N1 N2 → RQ K1 K2 P0 (Bd + 600) cr sr N1 N2 (rc x i N1) (rc x i N2)) (n p q : Int32) : ∀ (k : Nat) (x : Int64) (i : Int32) (N1 N2 : MS), PR K1 K2 P0 Bd N1 N2 → RQ K1 K2 P0 (Bd + 600) (cr + 4 * k) (sr + 24 * k) N1 N2 (L_L_asks_226 n p q rc k x i N1) (L_L_asks_226 n p q rc k x i N2) := by
  intro k
  induction k with
  | zero => intro x i N1 N2 hN; exact rq_end (PR.mono hN (by omega) hBd) _
  | succ k ih =>
    intro x i N1 N2 hN
    show RQ K1 K2 P0 (Bd + 600) _ _ N1 N2 (B_L_asks_226 n p q rc (L_L_asks_226 n p q rc k) x i N1) (B_L_asks_226 n p q rc (L_L_asks_226 n p q rc k) x i N2)
    unfold B_L_asks_226
    by_cases c : n ≤ i
    · rw [if_pos c, if_pos c]
      exact RQ.mono (hrc _ _ _ _ hN) (by omega) (by omega)
    · rw [if_neg c, if_neg c, kb_L_asks_244, kb_L_asks_244]
      refine RQ.mono (RQ.bind (KB_L_asks_244 x i _) (qa_told hN p q i) (fun v A B hAB => ?_)) (by omega) (by omega) (c := 4 + (cr + 4 * k)) (s := 24 + (sr + 24 * k))
      exact ih _ _ A B hAB
set_option maxHeartbeats 1000000 in
set_option maxRecDepth 100000 in
theorem as_193 {K1 K2 : CR} {P0 : List PG} {Bd : Nat} (hBd : Bd + 600 ≤ 900000) {cr sr : Nat} {rc : Int64 → Int32 → MS → (Int64 × MS × Nat × Nat)} (hrc : ∀ x i N1 N2, PR K1 K2 P0 Bd N1 N2 → RQ K1 K2 P0 (Bd + 600) cr sr N1 N2 (rc x i N1) (rc x i N2)) {n : Int32} (hn : n.toInt ≤ 6) (p q : Int32) : ∀ (k : Nat) (x : Int64) (i : Int32) (N1 N2 : MS), PR K1 K2 P0 Bd N1 N2 → RQ K1 K2 P0 (Bd + 600) (cr + 28 + 3 * k) (sr + 168 + 18 * k) N1 N2 (L_L_asks_193 n p q rc k x i N1) (L_L_asks_193 n p q rc k x i N2) := by
  intro k
  induction k with
  | zero => intro x i N1 N2 hN; exact rq_end (PR.mono hN (by omega) hBd) _
  | succ k ih =>
    intro x i N1 N2 hN
    show RQ K1 K2 P0 (Bd + 600) _ _ N1 N2 (B_L_asks_193 n p q rc (L_L_asks_193 n p q rc k) x i N1) (B_L_asks_193 n p q rc (L_L_asks_193 n p q rc k) x i N2)
    unfold B_L_asks_193
    by_cases c : 3 ≤ i
    · rw [if_pos c, if_pos c]
      exact RQ.mono (as_226 hBd hrc n p q _ x 0 N1 N2 hN) (by rw [i0]; omega) (by rw [i0]; omega)
    · rw [if_neg c, if_neg c, kb_L_asks_211, kb_L_asks_211]
      refine RQ.mono (RQ.bind (KB_L_asks_211 x i _) (qa_page hN p q i) (fun v A B hAB => ?_)) (by omega) (by omega) (c := 3 + (cr + 28 + 3 * k)) (s := 18 + (sr + 168 + 18 * k))
      exact ih _ _ A B hAB
theorem qa_line2 {K1 K2 : CR} {P0 : List PG} {Bd : Nat} {M1 M2 : MS} (h : PR K1 K2 P0 Bd M1 M2) {n i : Int32} (hn : n = M1.1.2.2.2.2.2.2.2.1) (h0 : 0 ≤ i.toInt) (h1 : ¬ n ≤ i) : RQ K1 K2 P0 Bd 1 6 M1 M2 (F_L_line M1 i) (F_L_line M2 i) ∧ TXR (F_L_line M1 i).2.1 (F_L_line M2 i).2.1 (F_L_line M1 i).1 := by
  refine qa_line h i ?_
  rw [← hn]
  unfold F_X10_needSurveyor F_X8_has
  have e : ¬ i < 0 := fun z => by have := f_lt z; rw [i0] at this; omega
  rw [if_neg e, if_neg h1]
  decide
set_option maxHeartbeats 1000000 in
set_option maxRecDepth 100000 in
theorem as_98 {K1 K2 : CR} {P0 : List PG} {Bd : Nat} (hBd : Bd + 600 ≤ 900000) (p : Int32) {cr sr : Nat} {rc : Int64 → Int32 → MS → (Int64 × MS × Nat × Nat)} (hrc : ∀ x N1 N2, PR K1 K2 P0 Bd N1 N2 → RQ K1 K2 P0 (Bd + 600) cr sr N1 N2 (rc x (p + 1) N1) (rc x (p + 1) N2)) {n : Int32} (hn : n.toInt ≤ 6) (hp0 : 0 ≤ p.toInt) (hpn : ¬ n ≤ p) (hK : n = K1.1.2.2.2.2.2.2.2.1) : ∀ (k : Nat) (x : Int64) (i : Int32) (N1 N2 : MS), PR K1 K2 P0 Bd N1 N2 → RQ K1 K2 P0 (Bd + 600) (cr + 204 + 58 * k) (sr + 1224 + 348 * k) N1 N2 (L_L_asks_98 n p rc k x i N1) (L_L_asks_98 n p rc k x i N2) := by
  intro k
  induction k with
  | zero => intro x i N1 N2 hN; exact rq_end (PR.mono hN (by omega) hBd) _
  | succ k ih =>
    intro x i N1 N2 hN
    show RQ K1 K2 P0 (Bd + 600) _ _ N1 N2 (B_L_asks_98 n p rc (L_L_asks_98 n p rc k) x i N1) (B_L_asks_98 n p rc (L_L_asks_98 n p rc k) x i N2)
    unfold B_L_asks_98
    by_cases c : n ≤ i
    · rw [if_pos c, if_pos c, kb_L_asks_276, kb_L_asks_276]
      refine RQ.mono (RQ.bind (KB_L_asks_276 p rc x) (qa_reached hN p) (fun v A B hAB => ?_)) (by omega) (by omega) (c := 1 + (2 + (1 + (1 + (cr + 199))))) (s := 6 + (12 + (6 + (6 + (sr + 1194)))))
      unfold KB_L_asks_276
      rw [kb_L_asks_285, kb_L_asks_285]
      refine RQ.bind (KB_L_asks_285 p rc x v) (qa_right hAB p) (fun v2 A B hAB => ?_)
      unfold KB_L_asks_285
      rw [kb_L_asks_294, kb_L_asks_294]
      refine RQ.bind (KB_L_asks_294 p rc x v v2) (qa_busiest hAB p) (fun v3 A B hAB => ?_)
      unfold KB_L_asks_294
      rw [kb_L_asks_303, kb_L_asks_303]
      have hK2 : n = A.1.2.2.2.2.2.2.2.1 := by
        obtain ⟨⟨rfl, _⟩, _⟩ := hAB
        exact hK
      obtain ⟨w1, w2⟩ := qa_line2 hAB hK2 hp0 hpn
      obtain ⟨h1, h2, ⟨h3, h4⟩, ⟨h5, h6⟩⟩ := w1
      rw [← h1]
      generalize F_L_line A p = r1 at h1 h2 h3 h4 w2 ⊢
      generalize F_L_line B p = r2 at h1 h2 h5 h6 w2 ⊢
      have hT := w2
      obtain ⟨w, w3, w4, _⟩ := w2
      unfold KB_L_asks_303
      have hf : (r1.1.toInt - (0 : Int32).toInt).toNat + 1 ≤ 199 := by
        rw [w4, nI_toInt (by omega), i0]
        omega
      generalize (r1.1.toInt - (0 : Int32).toInt).toNat + 1 = fu at hf ⊢
      have z := as_311 hBd p hrc r1.1 fu ((((31 : Int64) * (((31 : Int64) * (((31 : Int64) * x) + (Int32.toInt64 v))) + (Int32.toInt64 v2))) + (Int32.toInt64 v3))) 0 r1.2.1 r2.2.1 h2 hT
      generalize L_L_asks_311 p rc r1.1 fu ((((31 : Int64) * (((31 : Int64) * (((31 : Int64) * x) + (Int32.toInt64 v))) + (Int32.toInt64 v2))) + (Int32.toInt64 v3))) 0 r1.2.1 = u1 at z ⊢
      generalize L_L_asks_311 p rc r1.1 fu ((((31 : Int64) * (((31 : Int64) * (((31 : Int64) * x) + (Int32.toInt64 v))) + (Int32.toInt64 v2))) + (Int32.toInt64 v3))) 0 r2.2.1 = u2 at z ⊢
      obtain ⟨k1, k2, ⟨k3, k4⟩, ⟨k5, k6⟩⟩ := z
      refine ⟨k1, k2, ⟨?_, ?_⟩, ⟨?_, ?_⟩⟩
      · show r1.2.2.2 + u1.2.2.2 + PHI A ≤ 6 + (sr + 1194) + PHI u1.2.1
        omega
      · show 320 * (r1.2.2.1 + u1.2.2.1) + PHC A ≤ 320 * (1 + (cr + 199)) + PHC u1.2.1
        omega
      · show r2.2.2.2 + u2.2.2.2 + PHI B ≤ 6 + (sr + 1194) + PHI u2.2.1
        omega
      · show 320 * (r2.2.2.1 + u2.2.2.1) + PHC B ≤ 320 * (1 + (cr + 199)) + PHC u2.2.1
        omega
    · rw [if_neg c, if_neg c, kb_L_asks_129, kb_L_asks_129]
      refine RQ.mono (RQ.bind (KB_L_asks_129 n p x i _) (qa_cost hN p i) (fun v A B hAB => ?_)) (by omega) (by omega) (c := 3 + (3 + (3 + (3 + (3 + (3 + ((cr + 204 + 58 * k) + 28 + 3 * 4))))))) (s := 18 + (18 + (18 + (18 + (18 + (18 + ((sr + 1224 + 348 * k) + 168 + 18 * 4)))))))
      unfold KB_L_asks_129
      rw [kb_L_asks_140, kb_L_asks_140]
      refine RQ.bind (KB_L_asks_140 n p x i _ v) (qa_distance hAB p i) (fun v2 A B hAB => ?_)
      unfold KB_L_asks_140
      rw [kb_L_asks_151, kb_L_asks_151]
      refine RQ.bind (KB_L_asks_151 n p x i _ v v2) (qa_distanceAgain hAB p i) (fun v3 A B hAB => ?_)
      unfold KB_L_asks_151
      rw [kb_L_asks_162, kb_L_asks_162]
      refine RQ.bind (KB_L_asks_162 n p x i _ v v2 v3) (qa_next hAB p i) (fun v4 A B hAB => ?_)
      unfold KB_L_asks_162
      rw [kb_L_asks_173, kb_L_asks_173]
      refine RQ.bind (KB_L_asks_173 n p x i _ v v2 v3 v4) (qa_follow hAB p i) (fun v5 A B hAB => ?_)
      unfold KB_L_asks_173
      rw [kb_L_asks_184, kb_L_asks_184]
      refine RQ.bind (KB_L_asks_184 n p x i _ v v2 v3 v4 v5) (qa_real hAB p i) (fun v6 A B hAB => ?_)
      unfold KB_L_asks_184
      have f : (((3 : Int32).toInt - (0 : Int32).toInt).toNat + 1) = 4 := by decide
      rw [f]
      exact as_193 hBd (fun x i A B hh => ih x i A B hh) hn p i 4 _ 0 A B hAB
set_option maxHeartbeats 1000000 in
set_option maxRecDepth 100000 in
theorem as_66 {K1 K2 : CR} {P0 : List PG} {Bd : Nat} (hBd : Bd + 600 ≤ 900000) (p : Int32) {cr sr : Nat} {rc : Int64 → Int32 → MS → (Int64 × MS × Nat × Nat)} (hrc : ∀ x N1 N2, PR K1 K2 P0 Bd N1 N2 → RQ K1 K2 P0 (Bd + 600) cr sr N1 N2 (rc x (p + 1) N1) (rc x (p + 1) N2)) {n : Int32} (hn : n.toInt ≤ 6) (hp0 : 0 ≤ p.toInt) (hpn : ¬ n ≤ p) (hK : n = K1.1.2.2.2.2.2.2.2.1) : ∀ (k : Nat) (x : Int64) (i : Int32) (N1 N2 : MS), PR K1 K2 P0 Bd N1 N2 → RQ K1 K2 P0 (Bd + 600) (cr + 610 + 2 * k) (sr + 3660 + 12 * k) N1 N2 (L_L_asks_66 n p rc k x i N1) (L_L_asks_66 n p rc k x i N2) := by
  intro k
  induction k with
  | zero => intro x i N1 N2 hN; exact rq_end (PR.mono hN (by omega) hBd) _
  | succ k ih =>
    intro x i N1 N2 hN
    show RQ K1 K2 P0 (Bd + 600) _ _ N1 N2 (B_L_asks_66 n p rc (L_L_asks_66 n p rc k) x i N1) (B_L_asks_66 n p rc (L_L_asks_66 n p rc k) x i N2)
    unfold B_L_asks_66
    by_cases c : 6 ≤ i
    · rw [if_pos c, if_pos c]
      exact RQ.mono (as_98 hBd p hrc hn hp0 hpn hK _ x 0 N1 N2 hN) (by rw [i0]; omega) (by rw [i0]; omega)
    · rw [if_neg c, if_neg c, kb_L_asks_83, kb_L_asks_83]
      refine RQ.mono (RQ.bind (KB_L_asks_83 x i _) (qa_surveyorOf hN p i) (fun v A B hAB => ?_)) (by omega) (by omega) (c := 2 + (cr + 610 + 2 * k)) (s := 12 + (sr + 3660 + 12 * k))
      exact ih _ _ A B hAB
set_option maxHeartbeats 1000000 in
set_option maxRecDepth 100000 in
theorem as_57 {K1 K2 : CR} {P0 : List PG} {Bd : Nat} (hBd : Bd + 600 ≤ 900000) {n : Int32} (hn : n.toInt ≤ 6) (hK : n = K1.1.2.2.2.2.2.2.2.1) : ∀ (k : Nat) (x : Int64) (i : Int32) (N1 N2 : MS), 0 ≤ i.toInt → PR K1 K2 P0 Bd N1 N2 → RQ K1 K2 P0 (Bd + 600) (199 + 624 * k) (1194 + 3744 * k) N1 N2 (L_L_asks_57 n k x i N1) (L_L_asks_57 n k x i N2) := by
  intro k
  induction k with
  | zero => intro x i N1 N2 hi hN; exact rq_end (PR.mono hN (by omega) hBd) _
  | succ k ih =>
    intro x i N1 N2 hi hN
    show RQ K1 K2 P0 (Bd + 600) _ _ N1 N2 (B_L_asks_57 n (L_L_asks_57 n k) x i N1) (B_L_asks_57 n (L_L_asks_57 n k) x i N2)
    unfold B_L_asks_57
    by_cases c : n ≤ i
    · rw [if_pos c, if_pos c]
      have f : (((30 : Int32).toInt - (0 : Int32).toInt).toNat + 1) = 31 := by decide
      rw [f]
      exact RQ.mono (as_347 hBd 31 x 0 N1 N2 hN) (by omega) (by omega)
    · rw [if_neg c, if_neg c, fuel6]
      have c2 := f_nle c
      have hi1 : 0 ≤ (i + 1).toInt := by
        rw [addI (by rw [i1]; omega) (by rw [i1]; omega), i1]
        omega
      exact RQ.mono (as_66 hBd i (fun x A B hh => ih x (i + 1) A B hi1 hh) hn hi c hK 7 x 0 N1 N2 hN) (by omega) (by omega)
theorem acc1 (M : MS) : (F_L_account M 1).1 = M.1.2.2.2.2.2.2.2.1 := rfl
theorem as_23 {K1 K2 : CR} {P0 : List PG} {Bd : Nat} (hBd : Bd + 600 ≤ 900000) : ∀ (k : Nat) (x : Int64) (i : Int32) (N1 N2 : MS), PR K1 K2 P0 Bd N1 N2 → RQ K1 K2 P0 (Bd + 600) (4568 + 1 * k) (27408 + 6 * k) N1 N2 (L_L_asks_23 k x i N1) (L_L_asks_23 k x i N2) := by
  intro k
  induction k with
  | zero => intro x i N1 N2 hN; exact rq_end (PR.mono hN (by omega) hBd) _
  | succ k ih =>
    intro x i N1 N2 hN
    show RQ K1 K2 P0 (Bd + 600) _ _ N1 N2 (B_L_asks_23 (L_L_asks_23 k) x i N1) (B_L_asks_23 (L_L_asks_23 k) x i N2)
    unfold B_L_asks_23
    by_cases c : 9 ≤ i
    · rw [if_pos c, if_pos c, kb_L_asks_50, kb_L_asks_50]
      have w := qa_account hN (a1 := 1) (by decide) (by decide)
      obtain ⟨h1, h2, ⟨h3, h4⟩, ⟨h5, h6⟩⟩ := w
      rw [← h1, acc1]
      have hK : N1.1.2.2.2.2.2.2.2.1 = K1.1.2.2.2.2.2.2.2.1 := by
        obtain ⟨⟨rfl, _⟩, _⟩ := hN
        rfl
      have hn6 : (N1.1.2.2.2.2.2.2.2.1).toInt ≤ 6 := by
        obtain ⟨_, _, _, M, lt, N, s1, s2, s3, _⟩ := h2
        rw [hK, s2, nI_toInt (by omega)]
        omega
      generalize N1.1.2.2.2.2.2.2.2.1 = n at hK hn6 ⊢
      generalize F_L_account N1 1 = r1 at h2 h3 h4 ⊢
      generalize F_L_account N2 1 = r2 at h2 h5 h6 ⊢
      unfold KB_L_asks_50
      have z := as_57 hBd hn6 hK ((n.toInt - (0 : Int32).toInt).toNat + 1) x 0 r1.2.1 r2.2.1 (by rw [i0]; omega) h2
      have hf : (n.toInt - (0 : Int32).toInt).toNat + 1 ≤ 7 := by rw [i0]; omega
      generalize (n.toInt - (0 : Int32).toInt).toNat + 1 = fu at hf z ⊢
      generalize L_L_asks_57 n fu x 0 r1.2.1 = u1 at z ⊢
      generalize L_L_asks_57 n fu x 0 r2.2.1 = u2 at z ⊢
      obtain ⟨k1, k2, ⟨k3, k4⟩, ⟨k5, k6⟩⟩ := z
      refine ⟨k1, k2, ⟨?_, ?_⟩, ⟨?_, ?_⟩⟩
      · show r1.2.2.2 + u1.2.2.2 + PHI N1 ≤ 27408 + 6 * (k + 1) + PHI u1.2.1
        omega
      · show 320 * (r1.2.2.1 + u1.2.2.1) + PHC N1 ≤ 320 * (4568 + 1 * (k + 1)) + PHC u1.2.1
        omega
      · show r2.2.2.2 + u2.2.2.2 + PHI N2 ≤ 27408 + 6 * (k + 1) + PHI u2.2.1
        omega
      · show 320 * (r2.2.2.1 + u2.2.2.1) + PHC N2 ≤ 320 * (4568 + 1 * (k + 1)) + PHC u2.2.1
        omega
    · rw [if_neg c, if_neg c, kb_L_asks_36, kb_L_asks_36]
      refine RQ.mono (RQ.bind (KB_L_asks_36 x i _) (qa_account hN (a1 := i) (fun z => c (by rw [z]; decide)) (fun z => c (by rw [z]; decide))) (fun v A B hAB => ?_)) (by omega) (by omega) (c := 1 + (4568 + 1 * k)) (s := 6 + (27408 + 6 * k))
      exact ih _ _ A B hAB
/-- asks: the same answer; the states keep their surveys; what it costs -/
theorem as_asks {K1 K2 : CR} {P0 : List PG} {Bd : Nat} (hBd : Bd + 600 ≤ 900000) {N1 N2 : MS} (hN : PR K1 K2 P0 Bd N1 N2) : RQ K1 K2 P0 (Bd + 600) 4580 27480 N1 N2 (F_L_asks N1) (F_L_asks N2) := by
  unfold F_L_asks
  rw [kb_L_asks_4, kb_L_asks_4]
  refine RQ.mono (RQ.bind KB_L_asks_4 (qa_meanCost hN) (fun v A B hAB => ?_)) (by omega) (by omega) (c := 1 + (1 + 4578)) (s := 6 + (6 + 27468))
  unfold KB_L_asks_4
  rw [kb_L_asks_12, kb_L_asks_12]
  refine RQ.bind (KB_L_asks_12 v) (qa_lostShare hAB) (fun v2 A B hAB => ?_)
  unfold KB_L_asks_12
  have f : (((9 : Int32).toInt - (0 : Int32).toInt).toNat + 1) = 10 := by decide
  rw [f]
  exact as_23 hBd 10 _ 0 A B hAB
