/-! A NEW PAGE -/
def EC (capE n : Nat) : Prop := n ≤ capE ∧ 10 ≤ capE ∧ capE ≤ 1600000
theorem grow_spec {capE : Nat} {PP : List PG} (h : EC capE PP.length) (he : PP.length = capE) (hl : PP.length ≤ 1000000) :
    (F_Jx4a65c_grow_d5877 capE PP).1 = capE + capE / 2 ∧ (F_Jx4a65c_grow_d5877 capE PP).2.1 = 1 ∧ (F_Jx4a65c_grow_d5877 capE PP).2.2 = capE + capE / 2 := by
  have en : (nI PP.length + 1).toInt = PP.length + 1 := by rw [qI_succ (by omega), nI_toInt (by omega)]; rfl
  have ec : (nI capE).toInt = capE := nI_toInt (by omega)
  have e1 : ((nI PP.length + 1) - nI capE).toInt = 1 := by rw [subI (by omega) (by omega)]; omega
  have e2 := shr1 (nI capE)
  have key : (F_J8_newLength_cabcc (nI capE) ((nI PP.length + 1) - (nI capE)) ((nI capE) >>> (1 &&& 31))).toInt = capE + capE / 2 := by
    have k := R_J8_newLength (nI capE) ((nI PP.length + 1) - (nI capE)) ((nI capE) >>> (1 &&& 31)) (by omega) (by omega) (by omega) (by omega) (by omega) (by omega)
    have := h.2.1
    omega
  have ki : ix (F_J8_newLength_cabcc (nI capE) ((nI PP.length + 1) - (nI capE)) ((nI capE) >>> (1 &&& 31))) = capE + capE / 2 := by rw [ix_toNat, key]; omega
  refine ⟨ki, rfl, ?_⟩
  show 0 + ((0 + 0) + _) = _
  rw [← ki]
  unfold F_J7_copyOf_1904c F_J7_copyOf_6403c_ad9
  simp only [Nat.zero_add]
theorem xput_spec {capE : Nat} {PP : List PG} (mc po ps pm : Int32) (pc : Nat → Int32) (h : EC capE PP.length) (hl : PP.length ≤ 1000000) :
    ∃ capE' c sl, F_X1_put capE PP mc po ps pm pc = (nI PP.length, capE', mc + 1, PP ++ [(po, ps, pm, pc)], c, sl) ∧ EC capE' (PP.length + 1) ∧ capE ≤ capE' ∧ capE' ≤ max capE (PP.length + PP.length / 2) ∧ sl + 4 * capE ≤ 4 * capE' ∧ 5 * c + capE ≤ capE' := by
  obtain ⟨h1, h2, h3⟩ := h
  have es : ∀ g : PG, F_Jx4a65c_size_8abf5 (PP ++ [g]) - 1 = nI PP.length := fun g => by
    unfold F_Jx4a65c_size_8abf5
    have e : (PP ++ [g]).length = PP.length + 1 := by rw [List.length_append]; rfl
    rw [e]
    have e1 : (nI (PP.length + 1)).toInt = PP.length + 1 := by rw [nI_toInt (by omega)]; rfl
    exact qI_eq (by omega) (by rw [subI (by rw [i1]; omega) (by rw [i1]; omega), i1]; omega)
  unfold F_X1_put F_Jx4a65c_add_9ea2d F_Jx4a65c_add_72be8
  by_cases c : nI PP.length = nI capE
  · have c2 := (qI_inj (by omega) (by omega)).mp c
    obtain ⟨g1, g2, g3⟩ := grow_spec ⟨h1, h2, h3⟩ c2 hl
    simp only [if_pos c, g1, g2, g3, es, Nat.zero_add, Nat.add_zero]
    exact ⟨_, _, _, rfl, ⟨by omega, by omega, by omega⟩, by omega, by omega, by omega, by omega⟩
  · have c2 : ¬ PP.length = capE := fun z => c (by rw [z])
    simp only [if_neg c, es, Nat.zero_add, Nat.add_zero]
    exact ⟨_, _, _, rfl, ⟨by omega, by omega, by omega⟩, by omega, by omega, by omega, by omega⟩
/-- what stands behind a tick's or a change's pages and letters: the room used -/
def CO (cap cap' capE capE' : Nat) (PP PP' : List PG) (c sl : Nat) : Prop :=
  cap ≤ cap' ∧ capE ≤ capE' ∧ PP.length ≤ PP'.length ∧ sl + 2 * cap + 4 * capE + 10 * PP.length ≤ 2 * cap' + 4 * capE' + 10 * PP'.length ∧ 320 * c + 5 * cap + 64 * capE + 640 * PP.length ≤ 5 * cap' + 64 * capE' + 640 * PP'.length
theorem CO.rf {cap capE : Nat} {PP : List PG} : CO cap cap capE capE PP PP 0 0 := ⟨Nat.le_refl _, Nat.le_refl _, Nat.le_refl _, by omega, by omega⟩
theorem CO.tr {a b c a' b' c' : Nat} {P Q R : List PG} {x y x' y' : Nat} (h : CO a b a' b' P Q x y) (h2 : CO b c b' c' Q R x' y') : CO a c a' c' P R (x + x') (y + y') := by
  obtain ⟨h1, h2', h3, h4, h5⟩ := h
  obtain ⟨g1, g2, g3, g4, g5⟩ := h2
  exact ⟨by omega, by omega, by omega, by omega, by omega⟩
theorem renew_spec {capE : Nat} {PP : List PG} (mc : Int32) (ds cs : Nat → Int32) {mp pk : Nat → Int32} {cap : Nat} {cn : Int32} (sn : Int32) {n s : Nat} (hn : n ≤ 6) (hs : s < 6) (tk md : Int32) {M : MP} {lt : List LT} (h : SIM PP mp pk cn M lt) (hc : LC cap cn) (hE : EC capE PP.length) (hl : lt.length + 6 < 900000) (hP : PP.length ≤ 990000) :
    ∃ capE' mc' mp' cap' pk' cn' sn' c sl, F_X8_renew capE PP mc ds cs mp pk cap cn sn (nI n) tk md (nI s) = (capE', mc', mp', cap', pk', cn', sn', md + 1, PP ++ [mnew (nbF ds cs n) (cstF cs) n tk M s], c, sl) ∧
      SIM (PP ++ [mnew (nbF ds cs n) (cstF cs) n tk M s]) mp' pk' cn' (mren (nbF ds cs n) (cstF cs) n tk (M, lt) s).1 (mren (nbF ds cs n) (cstF cs) n tk (M, lt) s).2 ∧ LC cap' cn' ∧ EC capE' (PP.length + 1) ∧ cap' ≤ max cap (2 * (lt.length + 6)) ∧ capE' ≤ max capE (PP.length + PP.length / 2) ∧ CO cap cap' capE capE' PP (PP ++ [mnew (nbF ds cs n) (cstF cs) n tk M s]) c sl := by
  have hp0 := h.1.1
  have pe : ((nI s, (pgd PP (F_X8_pageIn PP mp (nI s) (nI s))).2.1 + 1, tk, rtold ds cs (nI n) (nI s)) : PG) = mnew (nbF ds cs n) (cstF cs) n tk M s := by
    rw [h.page hs hs, rtold_eq ds cs hn hs]
    rfl
  obtain ⟨capE', c1, s1, e1, x1, x2, x3, x4, x5⟩ := xput_spec mc (nI s) ((pgd PP (F_X8_pageIn PP mp (nI s) (nI s))).2.1 + 1) tk (rtold ds cs (nI n) (nI s)) hE (by omega)
  rw [pe] at e1
  generalize mnew (nbF ds cs n) (cstF cs) n tk M s = p at pe e1 ⊢
  have el : (PP ++ [p]).length = PP.length + 1 := by rw [List.length_append]; rfl
  have hN : (nI PP.length).toInt = PP.length := nI_toInt (by omega)
  have h1 := h.push p (by omega)
  have h2 := h1.setmp hs hs (v := nI PP.length) (by omega) (by omega)
  rw [qI_ix (by omega), pgd_at] at h2
  obtain ⟨cap', pk', cn', sn', c2, s2, e2, g1, g2, g3, g4, g5, g6⟩ := sendTo_spec sn ds cs hn hs (ip := nI PP.length) (by omega) (by omega) 99 (-1) (fun o ho => ⟨fun z => by
      have z2 := congrArg Int32.toInt z
      rw [nI_toInt (by omega), show ((-1 : Int32)).toInt = -1 from by decide] at z2
      omega, fun z => by omega⟩) h2 hc hl
  rw [qI_ix (by omega), pgd_at] at g1
  refine ⟨capE', mc + 1, upd mp (6 * s + s) (nI PP.length), cap', pk', cn', sn', 2 + c1 + c2, 10 + s1 + s2, ?_, ?_, g2, x1, g4, x3, ?_⟩
  · show K_X8_renew_7 capE PP mc ds cs mp pk cap cn sn (nI n) tk md (nI s) (L_X8_renew_7 ds cs (nI n) (nI s) ((((nI n) : Int32).toInt - (0 : Int32).toInt).toNat + 1) 0 (fun _ => 0) (0 + 1) (0 + 6)) = _
    have et := told_spec ds cs hn hs _ 0 (0 + 1) (0 + 6) (Nat.zero_le _) (fuel_nI hn)
    rw [show mtold (nbF ds cs n) (cstF cs) 0 s = (fun _ => 0 : Nat → Int32) from funext fun o => if_neg (fun z => Nat.not_lt_zero _ z.1), show nI 0 = (0 : Int32) from rfl] at et
    rw [et]
    rw [show K_X8_renew_7 capE PP mc ds cs mp pk cap cn sn (nI n) tk md (nI s) (nI n, mtold (nbF ds cs n) (cstF cs) n s, 0 + 1, 0 + 6) = K_X8_renew_73 ds cs mp pk cap cn sn (nI n) md (nI s) (0 + 1) (0 + 6) (F_X1_put capE PP mc (nI s) ((pgd PP (F_X8_pageIn PP mp (nI s) (nI s))).2.1 + 1) tk (mtold (nbF ds cs n) (cstF cs) n s)) from rfl, ← rtold_eq ds cs hn hs, e1]
    rw [show K_X8_renew_73 ds cs mp pk cap cn sn (nI n) md (nI s) (0 + 1) (0 + 6) (nI PP.length, capE', mc + 1, PP ++ [p], c1, s1) = K_X8_renew_105 mp md (nI s) (0 + 1) (0 + 6) (nI PP.length) capE' (mc + 1) (PP ++ [p]) c1 s1 (F_X8_sendToNeighbours ds cs pk cap cn sn (nI n) (nI s) (nI PP.length) (-1)) from rfl, e2]
    rw [show K_X8_renew_105 mp md (nI s) (0 + 1) (0 + 6) (nI PP.length) capE' (mc + 1) (PP ++ [p]) c1 s1 (cap', pk', cn', sn', c2, s2) = (capE', mc + 1, upd mp (ix (F_X8_pair (nI s) (nI s))) (nI PP.length), cap', pk', cn', sn', md + 1, PP ++ [p], (((((((0 + 1) + 0) + 1) + 0) + c1) + 0) + c2), (((((((0 + 6) + 0) + 4) + 0) + s1) + 0) + s2)) from rfl, ixpair_nI hs hs]
    simp only [Nat.zero_add, Nat.add_zero]
  · unfold mren
    show SIM (PP ++ [p]) _ _ _ (mset M s s (mnew (nbF ds cs n) (cstF cs) n tk M s)) (lt ++ msl (nbF ds cs n) n s (mnew (nbF ds cs n) (cstF cs) n tk M s) 99)
    rw [show mnew (nbF ds cs n) (cstF cs) n tk M s = p from by rw [← pe, h.page hs hs, rtold_eq ds cs hn hs]; rfl]
    exact g1
  · exact ⟨g3, x2, by omega, by omega, by omega⟩
