/-! THE WAYS' TABLES ARE WRITTEN ANEW -/
def AGm (m e : Nat) (w1 w2 : Nat → Int32) : Prop := ∀ i, (i < m ∨ e ≤ i) → w1 i = w2 i
def Zf (e : Nat) (w : Nat → Int32) : Prop := ∀ i, e ≤ i → w i = 0
theorem updA (f : Nat → Int32) (k : Nat) (v : Int32) (j : Nat) : upd f k v j = if j = k then v else f j := by
  unfold upd
  first | rfl | (by_cases c : j = k <;> simp [c])
theorem Zf.upd {e : Nat} {w : Nat → Int32} (h : Zf e w) {k : Nat} (hk : k < e) (v : Int32) : Zf e (upd w k v) := by
  intro i hi
  rw [updA, if_neg (by omega)]
  exact h i hi
theorem AGm.upd {m e : Nat} {w1 w2 : Nat → Int32} (h : AGm m e w1 w2) (v : Int32) : AGm (m + 1) e (upd w1 m v) (upd w2 m v) := by
  intro i hi
  rw [updA, updA]
  by_cases c : i = m
  · rw [if_pos c, if_pos c]
  · rw [if_neg c, if_neg c]
    exact h i (by omega)
theorem AGm.all {e : Nat} {w1 w2 : Nat → Int32} (h : AGm e e w1 w2) : w1 = w2 := funext fun i => h i (by omega)
theorem AGm.ofZ {e : Nat} {w1 w2 : Nat → Int32} (h1 : Zf e w1) (h2 : Zf e w2) : AGm 0 e w1 w2 := by
  intro i hi
  rw [h1 i (by omega), h2 i (by omega)]
theorem fill_ag (v : Int32) : ∀ (k t : Nat) (w1 w2 : Nat → Int32), t ≤ 6 → 7 ≤ k + t → AGm t 6 w1 w2 → (L_J7_fill_53178_5 6 v k (nI t) w1).2 = (L_J7_fill_53178_5 6 v k (nI t) w2).2 := by
  intro k
  induction k with
  | zero => intro t w1 w2 h1 h2; omega
  | succ k ih =>
    intro t w1 w2 h1 h2 h
    show (B_J7_fill_53178_5 6 v (L_J7_fill_53178_5 6 v k) (nI t) w1).2 = (B_J7_fill_53178_5 6 v (L_J7_fill_53178_5 6 v k) (nI t) w2).2
    unfold B_J7_fill_53178_5
    by_cases c : t = 6
    · subst c
      rw [if_pos (by decide), if_pos (by decide)]
      exact AGm.all h
    · rw [if_neg (by rw [qI_le (by omega) (by omega)]; omega), if_neg (by rw [qI_le (by omega) (by omega)]; omega), qI_succ (by omega), qI_ix (by omega)]
      exact ih (t + 1) _ _ (by omega) (by omega) (AGm.upd h v)
theorem kfill : ∀ r, K_J7_fill_53178_5 r = r.2 := fun ⟨_, _⟩ => rfl
theorem kcC9 : ∀ r, K_X9_canalByCanal_9 r = r.2.2 := fun ⟨_, _, _⟩ => rfl
theorem fuel6 : (((6 : Int32).toInt - (0 : Int32).toInt).toNat + 1) = 7 := by decide
theorem fueln6 : ((((nI 6) : Int32).toInt - (0 : Int32).toInt).toNat + 1) = 7 := by decide
theorem fill_eq {w1 w2 : Nat → Int32} (v : Int32) (h1 : Zf 6 w1) (h2 : Zf 6 w2) : F_J7_fill_53178 w1 6 v = F_J7_fill_53178 w2 6 v := by
  unfold F_J7_fill_53178
  rw [kfill, kfill, fueln6]
  exact fill_ag v 7 0 w1 w2 (by omega) (by omega) (AGm.ofZ h1 h2)
theorem fill_Z (v : Int32) : ∀ (k t : Nat) (w : Nat → Int32), t ≤ 6 → Zf 6 w → Zf 6 (L_J7_fill_53178_5 6 v k (nI t) w).2 := by
  intro k
  induction k with
  | zero => intro t w h1 h; exact h
  | succ k ih =>
    intro t w h1 h
    show Zf 6 (B_J7_fill_53178_5 6 v (L_J7_fill_53178_5 6 v k) (nI t) w).2
    unfold B_J7_fill_53178_5
    by_cases c : t = 6
    · subst c
      rw [if_pos (by decide)]
      exact h
    · rw [if_neg (by rw [qI_le (by omega) (by omega)]; omega), qI_succ (by omega), qI_ix (by omega)]
      exact ih (t + 1) _ (by omega) (h.upd (by omega) v)
theorem ix_lt6 {x : Int32} (h0 : ¬ x < 0) (h6 : ¬ 6 ≤ x) : ix x < 6 := by
  rw [Int32.lt_iff_toInt_lt, i0] at h0
  rw [Int32.le_iff_toInt_le, i6] at h6
  rw [ix_toNat]
  omega
theorem begin_eq {w1 w2 : Nat → Int32} (a : Int32) (h1 : Zf 6 w1) (h2 : Zf 6 w2) : F_X9_begin w1 a = F_X9_begin w2 a := by
  unfold F_X9_begin
  rw [fill_eq 1000000 h1 h2]
theorem begin_Z {w : Nat → Int32} (a : Int32) (h : Zf 6 w) : Zf 6 (F_X9_begin w a) := by
  have e : Zf 6 (F_J7_fill_53178 w 6 1000000) := by
    unfold F_J7_fill_53178
    rw [kfill, fueln6]
    exact fill_Z 1000000 7 0 w (by omega) h
  unfold F_X9_begin
  split
  · exact e
  · split
    · exact e
    · exact e.upd (ix_lt6 (by assumption) (by assumption)) 0
theorem shorten_Z {wc wd : Nat → Int32} (a : Int32) {t : Nat} (ht : t < 6) (h : Zf 6 wd) : Zf 6 (F_X9_shorten wc wd a (nI t)).2 := by
  unfold F_X9_shorten
  split
  · exact h
  · split
    · exact h
    · rw [qI_ix (by omega)]
      exact h.upd ht _
theorem ge6_nI {t : Nat} (ht : t ≤ 6) : (6 : Int32) ≤ nI t ↔ t = 6 := by
  have key : ∀ i : Fin 7, (6 : Int32) ≤ nI i.val ↔ i.val = 6 := by decide +kernel
  exact key ⟨t, by omega⟩
theorem nF42_Z {wc : Nat → Int32} (a : Int32) (w0 : Nat → Int32) : ∀ (k t : Nat) (w : Nat → Int32), t ≤ 6 → Zf 6 w → Zf 6 (L_X9_nearestFirst_42 wc a w0 k (nI t) w).2 := by
  intro k
  induction k with
  | zero => intro t w h1 h; exact h
  | succ k ih =>
    intro t w h1 h
    show Zf 6 (B_X9_nearestFirst_42 wc a w0 (L_X9_nearestFirst_42 wc a w0 k) (nI t) w).2
    unfold B_X9_nearestFirst_42
    by_cases c : t = 6
    · rw [if_pos ((ge6_nI h1).mpr c)]
      exact h
    · rw [if_neg (fun g => c ((ge6_nI h1).mp g)), qI_succ (by omega)]
      exact ih (t + 1) _ (by omega) (shorten_Z _ (by omega) h)
theorem nF10_Z {wc : Nat → Int32} : ∀ (k : Nat) (a : Int32) (t : Nat) (w : Nat → Int32), t ≤ 6 → Zf 6 w → Zf 6 (K_X9_nearestFirst_10 (L_X9_nearestFirst_10 wc k a (nI t) w)) := by
  intro k
  induction k with
  | zero => intro a t w h1 h; exact h
  | succ k ih =>
    intro a t w h1 h
    show Zf 6 (K_X9_nearestFirst_10 (B_X9_nearestFirst_10 wc (L_X9_nearestFirst_10 wc k) a (nI t) w))
    unfold B_X9_nearestFirst_10
    by_cases c : t = 6
    · rw [if_pos ((ge6_nI h1).mpr c)]
      exact h
    · rw [if_neg (fun g => c ((ge6_nI h1).mp g))]
      split
      · exact h
      · have z := nF42_Z (wc := wc) a w (((6 : Int32).toInt - (0 : Int32).toInt).toNat + 1) 0 w (by omega) h
        rw [show nI 0 = (0 : Int32) from rfl] at z
        generalize L_X9_nearestFirst_42 wc a w (((6 : Int32).toInt - (0 : Int32).toInt).toNat + 1) 0 w = r at z ⊢
        obtain ⟨r0, r1⟩ := r
        show Zf 6 (K_X9_nearestFirst_10 (L_X9_nearestFirst_10 wc k _ (nI t + 1) r1))
        rw [qI_succ (by omega)]
        exact ih _ (t + 1) _ (by omega) z
theorem nF_Z {wc wd : Nat → Int32} (a : Int32) (h : Zf 6 wd) : Zf 6 (F_X9_nearestFirst wc wd a) := by
  unfold F_X9_nearestFirst
  rw [fuel6]
  exact nF10_Z 7 63 0 _ (by omega) (begin_Z a h)
theorem nF_eq {wc w1 w2 : Nat → Int32} (a : Int32) (h1 : Zf 6 w1) (h2 : Zf 6 w2) : F_X9_nearestFirst wc w1 a = F_X9_nearestFirst wc w2 a := by
  unfold F_X9_nearestFirst
  rw [begin_eq a h1 h2]
theorem cC34_Z {wc : Nat → Int32} (f : Int32) : ∀ (k : Nat) (a : Int32) (t : Nat) (w : Nat → Int32), t ≤ 6 → Zf 6 w → Zf 6 (L_X9_canalByCanal_34 wc f k a (nI t) w).2.2 := by
  intro k
  induction k with
  | zero => intro a t w h1 h; exact h
  | succ k ih =>
    intro a t w h1 h
    show Zf 6 (B_X9_canalByCanal_34 wc f (L_X9_canalByCanal_34 wc f k) a (nI t) w).2.2
    unfold B_X9_canalByCanal_34
    by_cases c : t = 6
    · rw [if_pos ((ge6_nI h1).mpr c)]
      exact h
    · rw [if_neg (fun g => c ((ge6_nI h1).mp g)), qI_succ (by omega)]
      exact ih _ (t + 1) _ (by omega) (shorten_Z _ (by omega) h)
theorem cC24_Z {wc : Nat → Int32} : ∀ (k : Nat) (a f : Int32) (w : Nat → Int32), Zf 6 w → Zf 6 (L_X9_canalByCanal_24 wc k a f w).2.2 := by
  intro k
  induction k with
  | zero => intro a f w h; exact h
  | succ k ih =>
    intro a f w h
    show Zf 6 (B_X9_canalByCanal_24 wc (L_X9_canalByCanal_24 wc k) a f w).2.2
    unfold B_X9_canalByCanal_24
    split
    · exact h
    · have z := cC34_Z (wc := wc) f (((6 : Int32).toInt - (0 : Int32).toInt).toNat + 1) a 0 w (by omega) h
      rw [show nI 0 = (0 : Int32) from rfl] at z
      generalize L_X9_canalByCanal_34 wc f (((6 : Int32).toInt - (0 : Int32).toInt).toNat + 1) a 0 w = r at z ⊢
      obtain ⟨r0, r1, r2⟩ := r
      exact ih _ _ _ z
theorem cC9_Z {wc : Nat → Int32} : ∀ (k : Nat) (a f : Int32) (w : Nat → Int32), Zf 6 w → Zf 6 (L_X9_canalByCanal_9 wc k a f w).2.2 := by
  intro k
  induction k with
  | zero => intro a f w h; exact h
  | succ k ih =>
    intro a f w h
    show Zf 6 (B_X9_canalByCanal_9 wc (L_X9_canalByCanal_9 wc k) a f w).2.2
    unfold B_X9_canalByCanal_9
    split
    · exact h
    · split
      · exact h
      · have z := cC24_Z (wc := wc) (((6 : Int32).toInt - (0 : Int32).toInt).toNat + 1) 0 0 w h
        generalize L_X9_canalByCanal_24 wc (((6 : Int32).toInt - (0 : Int32).toInt).toNat + 1) 0 0 w = r at z ⊢
        obtain ⟨r0, r1, r2⟩ := r
        exact ih _ _ _ z
theorem cC_Z {wc wd : Nat → Int32} (a : Int32) (h : Zf 6 wd) : Zf 6 (F_X9_canalByCanal wc wd a) := by
  unfold F_X9_canalByCanal
  rw [kcC9, fuel6]
  exact cC9_Z 7 1 0 _ (begin_Z a h)
theorem cC_eq {wc w1 w2 : Nat → Int32} (a : Int32) (h1 : Zf 6 w1) (h2 : Zf 6 w2) : F_X9_canalByCanal wc w1 a = F_X9_canalByCanal wc w2 a := by
  unfold F_X9_canalByCanal
  rw [begin_eq a h1 h2]
/-! one step -/
theorem fS27_Z {wc wd : Nat → Int32} {a b : Int32} : ∀ (k : Nat) (t : Int32) (w : Nat → Int32), Zf 6 w → Zf 6 (K_X9_firstStep_27 (L_X9_firstStep_27 wc wd a b k t w)).2 := by
  intro k
  induction k with
  | zero => intro t w h; exact h
  | succ k ih =>
    intro t w h
    show Zf 6 (K_X9_firstStep_27 (B_X9_firstStep_27 wc wd a b (L_X9_firstStep_27 wc wd a b k) t w)).2
    unfold B_X9_firstStep_27
    split
    · exact h
    · split
      · exact ih _ _ (nF_Z _ h)
      · split
        · exact nF_Z _ h
        · exact ih _ _ (nF_Z _ h)
theorem fS27_eq {wc w1 w2 : Nat → Int32} {a b : Int32} (h1 : Zf 6 w1) (h2 : Zf 6 w2) : ∀ k, L_X9_firstStep_27 wc w1 a b k = L_X9_firstStep_27 wc w2 a b k := by
  intro k
  induction k with
  | zero => rfl
  | succ k ih =>
    show B_X9_firstStep_27 wc w1 a b (L_X9_firstStep_27 wc w1 a b k) = B_X9_firstStep_27 wc w2 a b (L_X9_firstStep_27 wc w2 a b k)
    rw [ih]
    funext t w
    unfold B_X9_firstStep_27
    rw [nF_eq a h1 h2]
theorem fS_Z {wc wd : Nat → Int32} {a b : Int32} (h : Zf 6 wd) : Zf 6 (F_X9_firstStep wc wd a b).2 := by
  unfold F_X9_firstStep
  split
  · exact nF_Z _ h
  · split
    · exact fS27_Z _ _ _ (nF_Z _ h)
    · exact nF_Z _ h
theorem fS_eq {wc w1 w2 : Nat → Int32} {a b : Int32} (h1 : Zf 6 w1) (h2 : Zf 6 w2) : F_X9_firstStep wc w1 a b = F_X9_firstStep wc w2 a b := by
  unfold F_X9_firstStep
  rw [nF_eq a h1 h2, fS27_eq h1 h2]
/-! the table of the canals that count -/
theorem ix6n {f t : Nat} (hf : f < 6) (ht : t < 6) : ix ((nI f * 6) + nI t) = 6 * f + t := by
  have key : ∀ i j : Fin 6, ix ((nI i.val * 6) + nI j.val) = 6 * i.val + j.val := by decide +kernel
  exact key ⟨f, hf⟩ ⟨t, ht⟩
theorem tm19_ag {PP : List PG} {mp : Nat → Int32} (a : Int32) {f : Nat} (hf : f < 6) : ∀ (k t : Nat) (w1 w2 : Nat → Int32), t ≤ 6 → 7 ≤ k + t → AGm (6 * f + t) 36 w1 w2 → AGm (6 * f + 6) 36 (L_X9_takeMap_19 PP mp a (nI f) k (nI t) w1).2 (L_X9_takeMap_19 PP mp a (nI f) k (nI t) w2).2 := by
  intro k
  induction k with
  | zero => intro t w1 w2 h1 h2; omega
  | succ k ih =>
    intro t w1 w2 h1 h2 h
    show AGm (6 * f + 6) 36 (B_X9_takeMap_19 PP mp a (nI f) (L_X9_takeMap_19 PP mp a (nI f) k) (nI t) w1).2 (B_X9_takeMap_19 PP mp a (nI f) (L_X9_takeMap_19 PP mp a (nI f) k) (nI t) w2).2
    unfold B_X9_takeMap_19
    by_cases c : t = 6
    · subst c
      rw [if_pos ((ge6_nI h1).mpr rfl), if_pos ((ge6_nI h1).mpr rfl)]
      exact h
    · rw [if_neg (fun g => c ((ge6_nI h1).mp g)), if_neg (fun g => c ((ge6_nI h1).mp g)), qI_succ (by omega), ix6n hf (by omega)]
      split
      · exact ih (t + 1) _ _ (by omega) (by omega) (AGm.upd h _)
      · exact ih (t + 1) _ _ (by omega) (by omega) (AGm.upd h _)
theorem tm19_Z {PP : List PG} {mp : Nat → Int32} (a : Int32) {f : Nat} (hf : f < 6) : ∀ (k t : Nat) (w : Nat → Int32), t ≤ 6 → Zf 36 w → Zf 36 (L_X9_takeMap_19 PP mp a (nI f) k (nI t) w).2 := by
  intro k
  induction k with
  | zero => intro t w h1 h; exact h
  | succ k ih =>
    intro t w h1 h
    show Zf 36 (B_X9_takeMap_19 PP mp a (nI f) (L_X9_takeMap_19 PP mp a (nI f) k) (nI t) w).2
    unfold B_X9_takeMap_19
    by_cases c : t = 6
    · rw [if_pos ((ge6_nI h1).mpr c)]
      exact h
    · rw [if_neg (fun g => c ((ge6_nI h1).mp g)), qI_succ (by omega), ix6n hf (by omega)]
      split
      · exact ih (t + 1) _ (by omega) (h.upd (by omega) _)
      · exact ih (t + 1) _ (by omega) (h.upd (by omega) _)
theorem tm2_ag {PP : List PG} {mp : Nat → Int32} (a : Int32) : ∀ (k f : Nat) (w1 w2 : Nat → Int32), f ≤ 6 → 7 ≤ k + f → AGm (6 * f) 36 w1 w2 → K_X9_takeMap_2 (L_X9_takeMap_2 PP mp a k (nI f) w1) = K_X9_takeMap_2 (L_X9_takeMap_2 PP mp a k (nI f) w2) := by
  intro k
  induction k with
  | zero => intro t w1 w2 h1 h2; omega
  | succ k ih =>
    intro f w1 w2 h1 h2 h
    show K_X9_takeMap_2 (B_X9_takeMap_2 PP mp a (L_X9_takeMap_2 PP mp a k) (nI f) w1) = K_X9_takeMap_2 (B_X9_takeMap_2 PP mp a (L_X9_takeMap_2 PP mp a k) (nI f) w2)
    unfold B_X9_takeMap_2
    by_cases c : f = 6
    · subst c
      rw [if_pos ((ge6_nI h1).mpr rfl), if_pos ((ge6_nI h1).mpr rfl)]
      exact AGm.all h
    · rw [if_neg (fun g => c ((ge6_nI h1).mp g)), if_neg (fun g => c ((ge6_nI h1).mp g))]
      have z := tm19_ag (PP := PP) (mp := mp) a (f := f) (by omega) (((6 : Int32).toInt - (0 : Int32).toInt).toNat + 1) 0 w1 w2 (by omega) (by decide) h
      rw [show nI 0 = (0 : Int32) from rfl] at z
      generalize L_X9_takeMap_19 PP mp a (nI f) (((6 : Int32).toInt - (0 : Int32).toInt).toNat + 1) 0 w1 = r1 at z ⊢
      generalize L_X9_takeMap_19 PP mp a (nI f) (((6 : Int32).toInt - (0 : Int32).toInt).toNat + 1) 0 w2 = r2 at z ⊢
      obtain ⟨r10, r11⟩ := r1
      obtain ⟨r20, r21⟩ := r2
      show K_X9_takeMap_2 (L_X9_takeMap_2 PP mp a k (nI f + 1) r11) = K_X9_takeMap_2 (L_X9_takeMap_2 PP mp a k (nI f + 1) r21)
      rw [qI_succ (by omega)]
      exact ih (f + 1) _ _ (by omega) (by omega) z
theorem tm2_Z {PP : List PG} {mp : Nat → Int32} (a : Int32) : ∀ (k f : Nat) (w : Nat → Int32), f ≤ 6 → Zf 36 w → Zf 36 (K_X9_takeMap_2 (L_X9_takeMap_2 PP mp a k (nI f) w)) := by
  intro k
  induction k with
  | zero => intro t w h1 h; exact h
  | succ k ih =>
    intro f w h1 h
    show Zf 36 (K_X9_takeMap_2 (B_X9_takeMap_2 PP mp a (L_X9_takeMap_2 PP mp a k) (nI f) w))
    unfold B_X9_takeMap_2
    by_cases c : f = 6
    · rw [if_pos ((ge6_nI h1).mpr c)]
      exact h
    · rw [if_neg (fun g => c ((ge6_nI h1).mp g))]
      have z := tm19_Z (PP := PP) (mp := mp) a (f := f) (by omega) (((6 : Int32).toInt - (0 : Int32).toInt).toNat + 1) 0 w (by omega) h
      rw [show nI 0 = (0 : Int32) from rfl] at z
      generalize L_X9_takeMap_19 PP mp a (nI f) (((6 : Int32).toInt - (0 : Int32).toInt).toNat + 1) 0 w = r1 at z ⊢
      obtain ⟨r10, r11⟩ := r1
      show Zf 36 (K_X9_takeMap_2 (L_X9_takeMap_2 PP mp a k (nI f + 1) r11))
      rw [qI_succ (by omega)]
      exact ih (f + 1) _ (by omega) z
theorem tm_eq {PP : List PG} {mp w1 w2 : Nat → Int32} (a : Int32) (h1 : Zf 36 w1) (h2 : Zf 36 w2) : F_X9_takeMap w1 PP mp a = F_X9_takeMap w2 PP mp a := by
  unfold F_X9_takeMap
  rw [fuel6]
  exact tm2_ag a 7 0 w1 w2 (by omega) (by omega) (AGm.ofZ h1 h2)
theorem tm_Z {PP : List PG} {mp w : Nat → Int32} (a : Int32) (h : Zf 36 w) : Zf 36 (F_X9_takeMap w PP mp a) := by
  unfold F_X9_takeMap
  rw [fuel6]
  exact tm2_Z a 7 0 w (by omega) h
theorem tc10_ag {ds cs : Nat → Int32} {n : Int32} {f : Nat} (hf : f < 6) : ∀ (k t : Nat) (w1 w2 : Nat → Int32), t ≤ 6 → 7 ≤ k + t → AGm (6 * f + t) 36 w1 w2 → AGm (6 * f + 6) 36 (L_X9_takeCanals_10 ds cs n (nI f) k (nI t) w1).2 (L_X9_takeCanals_10 ds cs n (nI f) k (nI t) w2).2 := by
  intro k
  induction k with
  | zero => intro t w1 w2 h1 h2; omega
  | succ k ih =>
    intro t w1 w2 h1 h2 h
    show AGm (6 * f + 6) 36 (B_X9_takeCanals_10 ds cs n (nI f) (L_X9_takeCanals_10 ds cs n (nI f) k) (nI t) w1).2 (B_X9_takeCanals_10 ds cs n (nI f) (L_X9_takeCanals_10 ds cs n (nI f) k) (nI t) w2).2
    unfold B_X9_takeCanals_10
    by_cases c : t = 6
    · subst c
      rw [if_pos ((ge6_nI h1).mpr rfl), if_pos ((ge6_nI h1).mpr rfl)]
      exact h
    · rw [if_neg (fun g => c ((ge6_nI h1).mp g)), if_neg (fun g => c ((ge6_nI h1).mp g)), qI_succ (by omega), ix6n hf (by omega)]
      split
      · exact ih (t + 1) _ _ (by omega) (by omega) (AGm.upd h _)
      · exact ih (t + 1) _ _ (by omega) (by omega) (AGm.upd h _)
theorem tc10_Z {ds cs : Nat → Int32} {n : Int32} {f : Nat} (hf : f < 6) : ∀ (k t : Nat) (w : Nat → Int32), t ≤ 6 → Zf 36 w → Zf 36 (L_X9_takeCanals_10 ds cs n (nI f) k (nI t) w).2 := by
  intro k
  induction k with
  | zero => intro t w h1 h; exact h
  | succ k ih =>
    intro t w h1 h
    show Zf 36 (B_X9_takeCanals_10 ds cs n (nI f) (L_X9_takeCanals_10 ds cs n (nI f) k) (nI t) w).2
    unfold B_X9_takeCanals_10
    by_cases c : t = 6
    · rw [if_pos ((ge6_nI h1).mpr c)]
      exact h
    · rw [if_neg (fun g => c ((ge6_nI h1).mp g)), qI_succ (by omega), ix6n hf (by omega)]
      split
      · exact ih (t + 1) _ (by omega) (h.upd (by omega) _)
      · exact ih (t + 1) _ (by omega) (h.upd (by omega) _)
theorem tc2_ag {ds cs : Nat → Int32} {n : Int32} : ∀ (k f : Nat) (w1 w2 : Nat → Int32), f ≤ 6 → 7 ≤ k + f → AGm (6 * f) 36 w1 w2 → K_X9_takeCanals_2 (L_X9_takeCanals_2 ds cs n k (nI f) w1) = K_X9_takeCanals_2 (L_X9_takeCanals_2 ds cs n k (nI f) w2) := by
  intro k
  induction k with
  | zero => intro t w1 w2 h1 h2; omega
  | succ k ih =>
    intro f w1 w2 h1 h2 h
    show K_X9_takeCanals_2 (B_X9_takeCanals_2 ds cs n (L_X9_takeCanals_2 ds cs n k) (nI f) w1) = K_X9_takeCanals_2 (B_X9_takeCanals_2 ds cs n (L_X9_takeCanals_2 ds cs n k) (nI f) w2)
    unfold B_X9_takeCanals_2
    by_cases c : f = 6
    · subst c
      rw [if_pos ((ge6_nI h1).mpr rfl), if_pos ((ge6_nI h1).mpr rfl)]
      exact AGm.all h
    · rw [if_neg (fun g => c ((ge6_nI h1).mp g)), if_neg (fun g => c ((ge6_nI h1).mp g))]
      have z := tc10_ag (ds := ds) (cs := cs) (n := n) (f := f) (by omega) (((6 : Int32).toInt - (0 : Int32).toInt).toNat + 1) 0 w1 w2 (by omega) (by decide) h
      rw [show nI 0 = (0 : Int32) from rfl] at z
      generalize L_X9_takeCanals_10 ds cs n (nI f) (((6 : Int32).toInt - (0 : Int32).toInt).toNat + 1) 0 w1 = r1 at z ⊢
      generalize L_X9_takeCanals_10 ds cs n (nI f) (((6 : Int32).toInt - (0 : Int32).toInt).toNat + 1) 0 w2 = r2 at z ⊢
      obtain ⟨r10, r11⟩ := r1
      obtain ⟨r20, r21⟩ := r2
      show K_X9_takeCanals_2 (L_X9_takeCanals_2 ds cs n k (nI f + 1) r11) = K_X9_takeCanals_2 (L_X9_takeCanals_2 ds cs n k (nI f + 1) r21)
      rw [qI_succ (by omega)]
      exact ih (f + 1) _ _ (by omega) (by omega) z
theorem tc2_Z {ds cs : Nat → Int32} {n : Int32} : ∀ (k f : Nat) (w : Nat → Int32), f ≤ 6 → Zf 36 w → Zf 36 (K_X9_takeCanals_2 (L_X9_takeCanals_2 ds cs n k (nI f) w)) := by
  intro k
  induction k with
  | zero => intro t w h1 h; exact h
  | succ k ih =>
    intro f w h1 h
    show Zf 36 (K_X9_takeCanals_2 (B_X9_takeCanals_2 ds cs n (L_X9_takeCanals_2 ds cs n k) (nI f) w))
    unfold B_X9_takeCanals_2
    by_cases c : f = 6
    · rw [if_pos ((ge6_nI h1).mpr c)]
      exact h
    · rw [if_neg (fun g => c ((ge6_nI h1).mp g))]
      have z := tc10_Z (ds := ds) (cs := cs) (n := n) (f := f) (by omega) (((6 : Int32).toInt - (0 : Int32).toInt).toNat + 1) 0 w (by omega) h
      rw [show nI 0 = (0 : Int32) from rfl] at z
      generalize L_X9_takeCanals_10 ds cs n (nI f) (((6 : Int32).toInt - (0 : Int32).toInt).toNat + 1) 0 w = r1 at z ⊢
      obtain ⟨r10, r11⟩ := r1
      show Zf 36 (K_X9_takeCanals_2 (L_X9_takeCanals_2 ds cs n k (nI f + 1) r11))
      rw [qI_succ (by omega)]
      exact ih (f + 1) _ (by omega) z
theorem tc_eq {ds cs : Nat → Int32} {n : Int32} {w1 w2 : Nat → Int32} (h1 : Zf 36 w1) (h2 : Zf 36 w2) : F_X9_takeCanals w1 ds cs n = F_X9_takeCanals w2 ds cs n := by
  unfold F_X9_takeCanals
  rw [fuel6]
  exact tc2_ag 7 0 w1 w2 (by omega) (by omega) (AGm.ofZ h1 h2)
theorem tc_Z {ds cs : Nat → Int32} {n : Int32} {w : Nat → Int32} (h : Zf 36 w) : Zf 36 (F_X9_takeCanals w ds cs n) := by
  unfold F_X9_takeCanals
  rw [fuel6]
  exact tc2_Z 7 0 w (by omega) h
