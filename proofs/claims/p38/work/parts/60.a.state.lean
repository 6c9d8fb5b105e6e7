/-! THE WHOLE STATE -/
theorem vu {α : Type} (f : Nat → α) (k : Nat) (v : α) (j : Nat) : va_up f k v j = if j = k then v else f j := by
  unfold va_up
  first | rfl | (by_cases c : j = k <;> simp [c])
def slotH : HV → Nat → SV
  | (hds, hcs, hmp, hpk, hcap, hcn, hsn, hn, htk, hav, hlo, hmd, hla, hct), j => (hds j, hcs j, hmp j, hpk j, hcap j, hcn j, hsn j, hn j, htk j, hav j, hlo j, hmd j)
def hlaH : HV → Int32
  | (_, _, _, _, _, _, _, _, _, _, _, _, hla, _) => hla
def hctH : HV → Int32
  | (_, _, _, _, _, _, _, _, _, _, _, _, _, hct) => hct
/-- a place where a survey is kept -/
def SLT (B : Nat) (S : SV) : Prop := Zf 6 S.1 ∧ Zf 36 S.2.1 ∧ Zf 36 S.2.2.1 ∧ 64 ≤ S.2.2.2.2.1 ∧ S.2.2.2.2.1 ≤ B
def RNG (R r d T : Nat) (PP : List PG) (H : HV) (stk : List SV) : Prop := (∀ j, j < 8 → SLT (2 * BR R + 64) (slotH H j)) ∧ ∃ h, h < 8 ∧ hlaH H = nI h ∧ hctH H = nI stk.length ∧ stk.length ≤ 8 ∧ ∀ i S, stk[i]? = some S → EQN S (slotH H ((h + 8 - i) % 8)) ∧ GSS r d T PP S
def SVO (r d T : Nat) (PP : List PG) (isv : Int32) (saved : SV) : Option SV → Prop
  | none => isv = 0
  | some S => ¬ isv = 0 ∧ EQN S saved ∧ GSS r d T PP S
def OKS (R r d T Bd : Nat) (stk : List SV) (sv : Option SV) : MS → Prop
  | ((ds, cs, mp, pk, cap, cn, sn, n, tk, av, lo, md), (ds_t, cs_t, mp_t, pk_t, cap_t, cn_t, sn_t, n_t, tk_t, av_t, lo_t, md_t), (ds_s, cs_s, mp_s, pk_s, cap_s, cn_s, sn_s, n_s, tk_s, av_s, lo_s, md_s), (hds, hcs, hmp, hpk, hcap, hcn, hsn, hn, htk, hav, hlo, hmd, hla, hct), wc, wd, sg, ln, pl, ch, nu, wb, capw, wl, wn, isv, lf, kk, kr, kd, kr2, kd2, capE, mc, PP) => GV R r d T capE PP ds cs mp pk cap cn n tk ∧ PP.length ≤ Bd ∧ SLT (4 * BR R + 12) (ds_t, cs_t, mp_t, pk_t, cap_t, cn_t, sn_t, n_t, tk_t, av_t, lo_t, md_t) ∧ SLT (2 * BR R + 64) (ds_s, cs_s, mp_s, pk_s, cap_s, cn_s, sn_s, n_s, tk_s, av_s, lo_s, md_s) ∧ SVO r d T PP isv (ds_s, cs_s, mp_s, pk_s, cap_s, cn_s, sn_s, n_s, tk_s, av_s, lo_s, md_s) sv ∧ RNG R r d T PP (hds, hcs, hmp, hpk, hcap, hcn, hsn, hn, htk, hav, hlo, hmd, hla, hct) stk ∧ Zf 36 wc ∧ Zf 6 wd ∧ capw ≤ 500 ∧ wn.toInt ≤ 198 ∧ ln = 0
def hsum (f : Nat → Nat) : Nat := f 0 + f 1 + f 2 + f 3 + f 4 + f 5 + f 6 + f 7
/-- the potentials of the whole state -/
def PHS : MS → Nat
  | ((_, _, _, _, cap, _, _, _, _, _, _, _), (_, _, _, _, cap_t, _, _, _, _, _, _, _), (_, _, _, _, cap_s, _, _, _, _, _, _, _), (_, _, _, _, hcap, _, _, _, _, _, _, _, _, _), _, _, _, _, _, _, _, _, capw, _, _, _, _, _, _, _, _, _, capE, _, PP) => 2 * (cap + cap_t + cap_s + hsum hcap) + 2 * capw + 4 * capE + 10 * PP.length
def PHK : MS → Nat
  | ((_, _, _, _, cap, _, _, _, _, _, _, _), (_, _, _, _, cap_t, _, _, _, _, _, _, _), (_, _, _, _, cap_s, _, _, _, _, _, _, _), (_, _, _, _, hcap, _, _, _, _, _, _, _, _, _), _, _, _, _, _, _, _, _, capw, _, _, _, _, _, _, _, _, _, capE, _, PP) => 5 * (cap + cap_t + cap_s + hsum hcap) + 320 * capw + 64 * capE + 640 * PP.length
theorem hsum_up (f : Nat → Nat) {j : Nat} (v : Nat) (hj : j < 8) : hsum (va_up f j v) + f j = hsum f + v := by
  unfold hsum
  simp only [vu]
  rcases (show j = 0 ∨ j = 1 ∨ j = 2 ∨ j = 3 ∨ j = 4 ∨ j = 5 ∨ j = 6 ∨ j = 7 by omega) with e | e | e | e | e | e | e | e <;> subst e <;> simp <;> omega
/-- what a run of a piece of the law gives, and costs -/
def OQ {α : Type} (c s : Nat) (M : MS) (r : α × MS × Nat × Nat) (P : α → MS → Prop) : Prop := P r.1 r.2.1 ∧ r.2.2.2 + PHS M ≤ s + PHS r.2.1 ∧ 320 * r.2.2.1 + PHK M ≤ 320 * c + PHK r.2.1
theorem OQ.mono {α : Type} {c s c' s' : Nat} {M : MS} {r : α × MS × Nat × Nat} {P Q : α → MS → Prop} (h : OQ c s M r P) (hc : c ≤ c') (hs : s ≤ s') (hp : ∀ v N, P v N → Q v N) : OQ c' s' M r Q := by
  obtain ⟨h1, h2, h3⟩ := h
  exact ⟨hp _ _ h1, by omega, by omega⟩
theorem OQ.bind {α β : Type} {c1 s1 c2 s2 : Nat} {M : MS} {r : α × MS × Nat × Nat} {P : α → MS → Prop} {Q : β → MS → Prop} {K : (α × MS × Nat × Nat) → (β × MS × Nat × Nat)} (B : α → MS → (β × MS × Nat × Nat)) (hK : ∀ v N c s, K (v, N, c, s) = adc c s (B v N)) (h : OQ c1 s1 M r P) (h2 : ∀ v N, P v N → OQ c2 s2 N (B v N) Q) : OQ (c2 + c1) (s2 + s1) M (K r) Q := by
  obtain ⟨v, N, c, s⟩ := r
  obtain ⟨h3, h4, h5⟩ := h
  obtain ⟨k1, k2, k3⟩ := h2 v N h3
  rw [hK]
  refine ⟨k1, ?_, ?_⟩
  · show s + (B v N).2.2.2 + PHS M ≤ s2 + s1 + PHS (B v N).2.1
    have h4 : s + PHS M ≤ s1 + PHS N := h4
    omega
  · show 320 * (c + (B v N).2.2.1) + PHK M ≤ 320 * (c2 + c1) + PHK (B v N).2.1
    have h5 : 320 * c + PHK M ≤ 320 * c1 + PHK N := h5
    omega
theorem OQ.ret {α : Type} {c s : Nat} {M : MS} {v : α} {P : α → MS → Prop} (h : P v M) : OQ c s M (v, M, 0, 0) P := ⟨h, by show 0 + PHS M ≤ s + PHS M; omega, by show 320 * 0 + PHK M ≤ 320 * c + PHK M; omega⟩
theorem OQ.ad {α : Type} {c s a b : Nat} {M : MS} {r : α × MS × Nat × Nat} {P : α → MS → Prop} (h : OQ c s M r P) : OQ (c + a) (s + b) M (adc a b r) P := by
  obtain ⟨h1, h2, h3⟩ := h
  refine ⟨h1, ?_, ?_⟩
  · show b + r.2.2.2 + PHS M ≤ s + b + PHS r.2.1
    omega
  · show 320 * (a + r.2.2.1) + PHK M ≤ 320 * (c + a) + PHK r.2.1
    omega
theorem OQ.eq {α : Type} {c s c' s' : Nat} {M N : MS} {v : α} {r : α × MS × Nat × Nat} {P : α → MS → Prop} (e : r = (v, N, c', s')) (h : P v N) (hc : c' ≤ c) (hs : s' ≤ s) (h1 : PHS N = PHS M) (h2 : PHK N = PHK M) : OQ c s M r P := by
  rw [e]
  refine ⟨h, ?_, ?_⟩
  · show s' + PHS M ≤ s + PHS N
    omega
  · show 320 * c' + PHK M ≤ 320 * c + PHK N
    omega
theorem mod8a {h i : Nat} (hh : h < 8) (hi : i < 8) : ((h + 1) % 8 + 8 - (i + 1)) % 8 = (h + 8 - i) % 8 := by omega
theorem rq8 {h : Nat} (hh : h < 8) : rmI (nI h + 1) 8 = nI ((h + 1) % 8) := by
  have key : ∀ i : Fin 8, rmI (nI i.val + 1) 8 = nI ((i.val + 1) % 8) := by decide +kernel
  exact key ⟨h, hh⟩
theorem rq8b {h : Nat} (hh : h < 8) : rmI ((nI h + 8) - 1) 8 = nI ((h + 7) % 8) := by
  have key : ∀ i : Fin 8, rmI ((nI i.val + 8) - 1) 8 = nI ((i.val + 7) % 8) := by decide +kernel
  exact key ⟨h, hh⟩
theorem iq8 {n : Nat} (hn : n ≤ 8) : inI (nI n + 1) 8 = nI (min (n + 1) 8) := by
  have key : ∀ i : Fin 9, inI (nI i.val + 1) 8 = nI (min (i.val + 1) 8) := by decide +kernel
  exact key ⟨n, by omega⟩
theorem dq8 {n : Nat} (hn : n < 8) : nI (n + 1) - 1 = nI n := by
  have key : ∀ i : Fin 8, nI (i.val + 1) - 1 = nI i.val := by decide +kernel
  exact key ⟨n, hn⟩
theorem RNG.mono {R r d T r' d' T' : Nat} {P : List PG} {H : HV} {stk : List SV} (h : RNG R r d T P H stk) (Q : List PG) (hl : (P ++ Q).length ≤ 2000000) (hr : r ≤ r') (hd : d ≤ d') (hT : T ≤ T') : RNG R r' d' T' (P ++ Q) H stk := by
  obtain ⟨h1, j, h2, h3, h4, h5, h6⟩ := h
  exact ⟨h1, j, h2, h3, h4, h5, fun i S hi => ⟨(h6 i S hi).1, GSS.mono (GSS.app (h6 i S hi).2 Q hl) hr hd hT⟩⟩
theorem SVO.mono {r d T r' d' T' : Nat} {P : List PG} {isv : Int32} {S : SV} {sv : Option SV} (h : SVO r d T P isv S sv) (Q : List PG) (hl : (P ++ Q).length ≤ 2000000) (hr : r ≤ r') (hd : d ≤ d') (hT : T ≤ T') : SVO r' d' T' (P ++ Q) isv S sv := by
  cases sv with
  | none => exact h
  | some U => exact ⟨h.1, h.2.1, GSS.mono (GSS.app h.2.2 Q hl) hr hd hT⟩
/-- a survey is kept in the ring -/
theorem RNG.keep {R r d T : Nat} {P : List PG} {hds hcs hmp hpk : Nat → Nat → Int32} {hcap : Nat → Nat} {hcn hsn hn htk hav hlo hmd : Nat → Int32} {hla hct : Int32} {stk : List SV} (h : RNG R r d T P (hds, hcs, hmp, hpk, hcap, hcn, hsn, hn, htk, hav, hlo, hmd, hla, hct) stk) {ds cs mp pk : Nat → Int32} {cap : Nat} {cn sn n tk av lo md : Int32} (hg : GSS r d T P (ds, cs, mp, pk, cap, cn, sn, n, tk, av, lo, md)) (y1 : Zf 6 ds) (y2 : Zf 36 cs) (y3 : Zf 36 mp) (h0 : 0 ≤ cn.toInt) (h1 : cn.toInt ≤ BR R) (hR : R ≤ 32) :
    ∃ j cap' pk' c s, j < 8 ∧ F_X4_keep hds hcs hmp hpk hcap hcn hsn hn htk hav hlo hmd hla hct ds cs mp pk cn sn n tk av lo md = (rmI (hla + 1) 8, inI (hct + 1) 8, va_up hds j ds, va_up hcs j cs, va_up hmp j mp, va_up hpk j pk', va_up hcap j cap', va_up hcn j cn, va_up hsn j sn, va_up hn j n, va_up htk j tk, va_up hav j av, va_up hlo j lo, va_up hmd j md, c, s) ∧ CC (hcap j) cap' c s ∧
      RNG R r d T P (va_up hds j ds, va_up hcs j cs, va_up hmp j mp, va_up hpk j pk', va_up hcap j cap', va_up hcn j cn, va_up hsn j sn, va_up hn j n, va_up htk j tk, va_up hav j av, va_up hlo j lo, va_up hmd j md, rmI (hla + 1) 8, inI (hct + 1) 8) ((ds, cs, mp, pk, cap, cn, sn, n, tk, av, lo, md) :: stk.take 7) := by
  obtain ⟨k1, i0, k2, k3, k4, k5, k6⟩ := h
  have k3 : hla = nI i0 := k3
  have k4 : hct = nI stk.length := k4
  subst k3 k4
  have hj : (i0 + 1) % 8 < 8 := Nat.mod_lt _ (by omega)
  obtain ⟨z1, z2, z3, z4, z5⟩ := k1 _ hj
  have hB := BR_le hR
  have hL : LBB = 72420 := rfl
  have z4 : 64 ≤ hcap ((i0 + 1) % 8) := z4
  have z5 : hcap ((i0 + 1) % 8) ≤ 2 * BR R + 64 := z5
  obtain ⟨cap', pk', c, s, e, g1, g2, g3, g4⟩ := keep_spec (hds := hds) (hcs := hcs) (hmp := hmp) (hpk := hpk) (hcap := hcap) (hcn := hcn) (hsn := hsn) (hn := hn) (htk := htk) (hav := hav) (hlo := hlo) (hmd := hmd) (nI i0) (nI stk.length) (ds := ds) (cs := cs) (mp := mp) pk (cn := cn) sn n tk av lo md (j := (i0 + 1) % 8) (by rw [rq8 k2, qI_ix (by omega)]) z1 z2 z3 y1 y2 y3 h0 (by omega) z4 (by omega)
  refine ⟨(i0 + 1) % 8, cap', pk', c, s, hj, e, g4, ?_, (i0 + 1) % 8, hj, rq8 k2, ?_, ?_, ?_⟩
  · intro j hj2
    by_cases cj : j = (i0 + 1) % 8
    · refine ⟨?_, ?_, ?_, ?_, ?_⟩
      · show Zf 6 (va_up hds _ ds j); rw [vu, if_pos cj]; exact y1
      · show Zf 36 (va_up hcs _ cs j); rw [vu, if_pos cj]; exact y2
      · show Zf 36 (va_up hmp _ mp j); rw [vu, if_pos cj]; exact y3
      · show 64 ≤ va_up hcap _ cap' j; rw [vu, if_pos cj]; exact g2.2.2.1
      · show va_up hcap _ cap' j ≤ _; rw [vu, if_pos cj]; omega
    · obtain ⟨w1, w2, w3, w4, w5⟩ := k1 j hj2
      refine ⟨?_, ?_, ?_, ?_, ?_⟩
      · show Zf 6 (va_up hds _ ds j); rw [vu, if_neg cj]; exact w1
      · show Zf 36 (va_up hcs _ cs j); rw [vu, if_neg cj]; exact w2
      · show Zf 36 (va_up hmp _ mp j); rw [vu, if_neg cj]; exact w3
      · show 64 ≤ va_up hcap _ cap' j; rw [vu, if_neg cj]; exact w4
      · show va_up hcap _ cap' j ≤ _; rw [vu, if_neg cj]; exact w5
  · show inI (nI stk.length + 1) 8 = _
    rw [iq8 k5, List.length_cons, List.length_take]
    congr 1
    omega
  · rw [List.length_cons, List.length_take]
    omega
  · intro i S hi
    cases i with
    | zero =>
      rw [List.getElem?_cons_zero] at hi
      have hi := Option.some.inj hi
      subst hi
      refine ⟨?_, hg⟩
      rw [show ((i0 + 1) % 8 + 8 - 0) % 8 = (i0 + 1) % 8 by omega]
      refine ⟨?_, ?_, ?_, ?_, ?_, ?_⟩
      · show ds = va_up hds _ ds _; rw [vu, if_pos rfl]
      · show cs = va_up hcs _ cs _; rw [vu, if_pos rfl]
      · show mp = va_up hmp _ mp _; rw [vu, if_pos rfl]
      · show ∀ i, i < ix cn → pk i = va_up hpk _ pk' _ i; rw [vu, if_pos rfl]; exact g1
      · show cn = va_up hcn _ cn _; rw [vu, if_pos rfl]
      · show (sn, n, tk, av, lo, md) = (va_up hsn _ sn _, va_up hn _ n _, va_up htk _ tk _, va_up hav _ av _, va_up hlo _ lo _, va_up hmd _ md _)
        rw [vu, vu, vu, vu, vu, vu, if_pos rfl, if_pos rfl, if_pos rfl, if_pos rfl, if_pos rfl, if_pos rfl]
    | succ i =>
      rw [List.getElem?_cons_succ] at hi
      have hi7 : i < 7 := by
        have w := (List.getElem?_eq_some_iff.mp hi).1
        rw [List.length_take] at w
        omega
      rw [List.getElem?_take_of_lt hi7] at hi
      obtain ⟨u1, u2⟩ := k6 i S hi
      refine ⟨?_, u2⟩
      rw [mod8a k2 (by omega)]
      have hne : ¬ (i0 + 8 - i) % 8 = (i0 + 1) % 8 := by omega
      obtain ⟨e1, e2, e3, e4, e5, e6⟩ := u1
      refine ⟨?_, ?_, ?_, ?_, ?_, ?_⟩
      · show S.1 = va_up hds _ ds _; rw [vu, if_neg hne]; exact e1
      · show S.2.1 = va_up hcs _ cs _; rw [vu, if_neg hne]; exact e2
      · show S.2.2.1 = va_up hmp _ mp _; rw [vu, if_neg hne]; exact e3
      · show ∀ i, i < ix S.2.2.2.2.2.1 → S.2.2.2.1 i = va_up hpk _ pk' _ i; rw [vu, if_neg hne]; exact e4
      · show S.2.2.2.2.2.1 = va_up hcn _ cn _; rw [vu, if_neg hne]; exact e5
      · show S.2.2.2.2.2.2 = (va_up hsn _ sn _, va_up hn _ n _, va_up htk _ tk _, va_up hav _ av _, va_up hlo _ lo _, va_up hmd _ md _)
        rw [vu, vu, vu, vu, vu, vu, if_neg hne, if_neg hne, if_neg hne, if_neg hne, if_neg hne, if_neg hne]; exact e6
