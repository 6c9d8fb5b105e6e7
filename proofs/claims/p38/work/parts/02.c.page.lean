/-! PAGES, in any number: the tail of a world -/
abbrev PG : Type := Int32 × Int32 × Int32 × (Nat → Int32)
def pg0 : PG := (0, 0, 0, fun _ => 0)
def pgd (PP : List PG) (k : Nat) : PG := PP.getD k pg0
def pad (AL : List (Nat × Nat)) (k : Nat) : Nat := (AL.getD k (0, 0)).1
def qad (AL : List (Nat × Nat)) (k : Nat) : Nat := (AL.getD k (0, 0)).2
def egl (AL : List (Nat × Nat)) : Nat → Option Nat := fun i => if i < AL.length then some (pad AL i) else none
theorem egl_get {AL : List (Nat × Nat)} {k : Nat} (h : k < AL.length) : egl AL k = some (pad AL k) := if_pos h
def pgcs (kI : ClassId) (a : Nat × Nat) (g : PG) : va_W := [(a.1, .inr (9, [.int g.1, .int g.2.1, .int g.2.2.1, .ref a.2])), (a.2, .inl (kI, 6, .inl g.2.2.2))]
def pgl (kI : ClassId) : List (Nat × Nat) → List PG → va_W
  | a :: AL, g :: PP => pgcs kI a g ++ pgl kI AL PP
  | _, _ => []
theorem pgl_at {kI : ClassId} : ∀ (AL : List (Nat × Nat)) (PP : List PG) (k : Nat), AL.length = PP.length → k < PP.length →
    (pgl kI AL PP)[2 * k]? = some (pad AL k, .inr (9, [.int (pgd PP k).1, .int (pgd PP k).2.1, .int (pgd PP k).2.2.1, .ref (qad AL k)])) ∧ (pgl kI AL PP)[2 * k + 1]? = some (qad AL k, .inl (kI, 6, .inl (pgd PP k).2.2.2))
  | [], [], k, _, h => absurd h (Nat.not_lt_zero _)
  | [], _ :: _, _, h, _ => nomatch h
  | _ :: _, [], _, h, _ => nomatch h
  | a :: AL, g :: PP, 0, _, _ => ⟨rfl, rfl⟩
  | a :: AL, g :: PP, k + 1, h, hk => by
    have ih := pgl_at (kI := kI) AL PP k (Nat.succ.inj h) (Nat.lt_of_succ_lt_succ hk)
    exact ⟨ih.1, ih.2⟩
theorem pgw {D : va_G} {H : Heap} {kI : ClassId} {k : Nat} {X : va_W} {AL : List (Nat × Nat)} {PP : List PG} (hP : va_P D vwCl (X ++ pgl kI AL PP) H) (hlen : AL.length = PP.length) (h : k < PP.length) :
    va_P D vwCl [(pad AL k, .inr (9, [.int (pgd PP k).1, .int (pgd PP k).2.1, .int (pgd PP k).2.2.1, .ref (qad AL k)])), (qad AL k, .inl (kI, 6, .inl (pgd PP k).2.2.2))] H := by
  have e := pgl_at (kI := kI) AL PP k hlen h
  intro i q hi
  match i, hi with
  | 0, hi =>
    cases hi
    exact hP (X.length + 2 * k) _ (by rw [List.getElem?_append_right (Nat.le_add_right _ _), Nat.add_sub_cancel_left]; exact e.1)
  | 1, hi =>
    cases hi
    exact hP (X.length + (2 * k + 1)) _ (by rw [List.getElem?_append_right (Nat.le_add_right _ _), Nat.add_sub_cancel_left]; exact e.2)
  | i + 2, hi => simp at hi
section KQQ
variable {p : Program} {l : Launch} {e : Env} {R : Room} {s : State} {m : MethodId} {args : Array Value} {below : List Frame} {meth : Method} {c : Code} {H : Heap} {locs : List Loc} {cells slots : Nat} {Q : State → Prop}
variable {pc : Nat} {ls : Array Slot} {rest : List Value}
theorem kq_ {o : Option Nat} {a : Nat} (h : o = some a) (k : W p l e R s m args below meth c H locs cells slots Q (F0 m pc ls (.ref a :: rest))) : W p l e R s m args below meth c H locs cells slots Q (F0 m pc ls (va_rf o :: rest)) := by
  rw [h]
  exact k
end KQQ
/-! the tail in a call's places -/
def tl_ (n : Nat) (pl : va_W) : List Nat := (List.range pl.length).map (fun i => n + i)
theorem tl_ge {n : Nat} {pl : va_W} {i : Nat} (h : i ∈ tl_ n pl) : n ≤ i := by
  obtain ⟨j, -, e⟩ := List.mem_map.mp h
  omega
theorem tl_get {X pl : va_W} {n : Nat} (hn : X.length = n) : (tl_ n pl).map (fun i => (X ++ pl)[i]?) = pl.map some := by
  subst hn
  unfold tl_
  apply List.ext_getElem (by simp)
  intro i h1 h2
  simp at h1 h2 ⊢
  rw [List.getElem?_append_right (Nat.le_add_right _ _), Nat.add_sub_cancel_left]
  exact List.getElem?_eq_getElem h1
theorem tl_C {X pl C : va_W} {n : Nat} (is : List Nat) (h : is.map (fun i => (X ++ pl)[i]?) = C.map some) (hn : X.length = n) : (is ++ tl_ n pl).map (fun i => (X ++ pl)[i]?) = (C ++ pl).map some := by
  rw [List.map_append, List.map_append, h, tl_get hn]
theorem va_nd_iff : ∀ l : List Nat, va_nd l = true ↔ l.Nodup
  | [] => by simp [va_nd]
  | a :: l => by simp [va_nd, va_nd_iff l]
theorem tl_nd {n : Nat} {pl : va_W} (is : List Nat) (h : va_nd is = true) (hlt : ∀ i ∈ is, i < n) : va_nd (is ++ tl_ n pl) = true := by
  rw [va_nd_iff] at h ⊢
  refine List.nodup_append.mpr ⟨h, ?_, fun a ha b hb e => ?_⟩
  · unfold tl_
    exact List.pairwise_map.mpr (List.nodup_range.imp (fun h e => h (Nat.add_left_cancel e)))
  · subst e
    exact absurd (tl_ge hb) (Nat.not_le.mpr (hlt a ha))
theorem tl_dis {n : Nat} {pl : va_W} (isR is : List Nat) (h : ∀ i ∈ isR, i ∉ is) (hlt : ∀ i ∈ isR, i < n) : ∀ i ∈ isR, i ∉ is ++ tl_ n pl := fun i hi z => by
  rcases List.mem_append.mp z with z | z
  · exact h i hi z
  · exact absurd (tl_ge z) (Nat.not_le.mpr (hlt i hi))
theorem tl_dis2 {n : Nat} {pl : va_W} (isR is : List Nat) (h : ∀ i ∈ isR, i ∉ is) (hlt : ∀ i ∈ is, i < n) : ∀ i ∈ isR ++ tl_ n pl, i ∉ is := fun i hi z => by
  rcases List.mem_append.mp hi with y | y
  · exact h i y z
  · exact absurd (tl_ge y) (Nat.not_le.mpr (hlt i z))
/-! a refusal, or none -/
def rfW (rk : Nat) (a : Nat) (r d : Int32) : va_W := match rk with
  | 0 => []
  | _ => [(a, .inr (10, [.int r, .int d, .null]))]
def rfV (rk : Nat) (a : Nat) : Value := match rk with
  | 0 => .null
  | _ => .ref a
/-! an enum constant, or null (6) -/
def enV (ad : Nat → Nat) (k : Nat) : Value := match k with
  | 6 => .null
  | k => .ref (ad k)
/-! the list of pages grows -/
theorem egl_cpy {AL : List (Nat × Nat)} {n : Nat} (h : AL.length ≤ n) : va_cpy (egl AL) (fun _ => none) 0 0 n = egl AL := by
  funext j
  by_cases hj : j < n
  · rw [show va_cpy (egl AL) (fun _ => none) 0 0 n j = egl AL (0 + (j - 0)) from pk_cpy_in (Nat.zero_le _) (by omega)]
    simp
  · rw [show va_cpy (egl AL) (fun _ => none) 0 0 n j = none from pk_cpy_out (by omega)]
    exact (if_neg (by omega)).symm
theorem egl_el {D : va_G} {H : Heap} {s : State} {kI : ClassId} {X : va_W} {AL : List (Nat × Nat)} {PP : List PG} {tys : List (ClassId × FieldType)} {n : Nat} (hK : va_K D vwCl tys s) (hP : va_P D vwCl (X ++ pgl kI AL PP) H) (hlen : AL.length = PP.length) :
    ∀ i : Nat, i < n → ∀ y : Nat, egl AL ((0 : Int32).toNatClampNeg + i) = some y → ∃ cellV : Cell, H[y]? = some cellV ∧ cellV.vm.isStatics = false ∧ s.vm.findClass "CanalMaps$Page" = some cellV.cls := by
  intro i _ y hy
  have e0 : (0 : Int32).toNatClampNeg = 0 := by decide +kernel
  rw [e0, Nat.zero_add] at hy
  unfold egl at hy
  by_cases hi : i < AL.length
  · rw [if_pos hi] at hy
    have hy : pad AL i = y := Option.some.inj hy
    subst hy
    exact va_recv hK (pgw (k := i) hP hlen (by omega)) (ci := 9) (q0 := 0) rfl rfl
  · rw [if_neg hi] at hy; cases hy
theorem kI_eq {D : va_G} {s : State} {tys : List (ClassId × FieldType)} {k k' : ClassId} (hK : va_K D vwCl tys s) (t0 t1 : Nat) (h0 : tys[t0]? = some (k, .int)) (h1 : tys[t1]? = some (k', .int)) : k = k' :=
  Option.some.inj ((hK.2 t0 _ h0).2.symm.trans (hK.2 t1 _ h1).2)
theorem pgl_push {kI : ClassId} : ∀ (AL : List (Nat × Nat)) (PP : List PG) (a : Nat × Nat) (g : PG), AL.length = PP.length → pgl kI (AL ++ [a]) (PP ++ [g]) = pgl kI AL PP ++ pgcs kI a g
  | [], [], _, _, _ => rfl
  | [], _ :: _, _, _, h => nomatch h
  | _ :: _, [], _, _, h => nomatch h
  | b :: AL, x :: PP, a, g, h => by
    show pgcs kI b x ++ pgl kI (AL ++ [a]) (PP ++ [g]) = (pgcs kI b x ++ pgl kI AL PP) ++ pgcs kI a g
    rw [pgl_push AL PP a g (Nat.succ.inj h), List.append_assoc]
theorem pg_absL {k' : ClassId} {X Y : va_W} {a b : Nat} {o s m : Int32} {f : Nat → Int32} {i j : Nat} {is : List Nat} (hi : X[i]? = some (a, .inr (9, [.int o, .int s, .int m, .ref b]))) (hj : X[j]? = some (b, .inl (k', 6, .inl f))) (hs : is.map (fun i => X[i]?) = Y.map some) :
    (is ++ [i, j]).map (fun i => X[i]?) = (Y ++ pgcs k' (a, b) (o, s, m, f)).map some := by
  rw [List.map_append, List.map_append, hs]
  show _ ++ [X[i]?, X[j]?] = _
  rw [hi, hj]
  rfl
theorem pg_absP {D : va_G} {H : Heap} {kI k' : ClassId} {X Y : va_W} {AL : List (Nat × Nat)} {PP : List PG} {a b : Nat} {o s m : Int32} {f : Nat → Int32} (hP : va_P D vwCl (X ++ pgl kI AL PP) H) (hlen : AL.length = PP.length) (e : k' = kI) (i j : Nat) (is : List Nat)
    (hi : X[i]? = some (a, .inr (9, [.int o, .int s, .int m, .ref b]))) (hj : X[j]? = some (b, .inl (k', 6, .inl f))) (hs : is.map (fun i => X[i]?) = Y.map some) : va_P D vwCl (Y ++ pgl kI (AL ++ [(a, b)]) (PP ++ [(o, s, m, f)])) H := by
  subst e
  rw [pgl_push _ _ _ _ hlen, ← List.append_assoc]
  exact (hP.part (is ++ [i, j]) (pg_absL hi hj hs)).swap
theorem pg_absD {A : Nat → Prop} {kI k' : ClassId} {X Y : va_W} {AL : List (Nat × Nat)} {PP : List PG} {a b : Nat} {o s m : Int32} {f : Nat → Int32} (hD : va_D A (X ++ pgl kI AL PP)) (hlen : AL.length = PP.length) (e : k' = kI) (i j : Nat) (is : List Nat)
    (hi : X[i]? = some (a, .inr (9, [.int o, .int s, .int m, .ref b]))) (hj : X[j]? = some (b, .inl (k', 6, .inl f))) (hs : is.map (fun i => X[i]?) = Y.map some) (hn : va_nd (is ++ [i, j]) = true) : va_D A (Y ++ pgl kI (AL ++ [(a, b)]) (PP ++ [(o, s, m, f)])) := by
  subst e
  rw [pgl_push _ _ _ _ hlen, ← List.append_assoc]
  exact (hD.part (is ++ [i, j]) hn (pg_absL hi hj hs)).swap
theorem egl_push {AL : List (Nat × Nat)} {n a b : Nat} (h : n = AL.length) : va_up (egl AL) n (some a) = egl (AL ++ [(a, b)]) := by
  subst h
  funext j
  unfold va_up egl
  rw [List.length_append]
  by_cases h1 : j = AL.length
  · rw [if_pos h1, if_pos (show j < AL.length + [(a, b)].length from by rw [h1]; exact Nat.lt_succ_self _)]
    subst h1
    simp [pad]
  · rw [if_neg h1]
    by_cases h2 : j < AL.length
    · rw [if_pos h2, if_pos (show j < AL.length + [(a, b)].length from Nat.lt_succ_of_lt h2)]
      simp [pad, List.getElem?_append_left h2]
    · rw [if_neg h2, if_neg (show ¬ j < AL.length + [(a, b)].length from fun z => by
        have z : j < AL.length + 1 := z
        omega)]
theorem len_push {α : Type} (L : List α) (a : α) : (L ++ [a]).length = L.length + 1 := by simp
/-! the addresses of pages that a call has made -/
def ual (q : Nat → Nat) (off m : Nat) : List (Nat × Nat) := (List.range m).map (fun j => (q (off + 2 * j), q (off + 2 * j + 1)))
theorem ual_len (L : List (Nat × Nat)) (q : Nat → Nat) (off m : Nat) : (L ++ ual q off m).length = L.length + m := by simp [ual]
def exq (X : List (Nat × Nat)) (k n : Nat) : Nat := if n % 2 = 0 then (X.getD (k + n / 2) (0, 0)).1 else (X.getD (k + n / 2) (0, 0)).2
def mq (L : List Nat) (X : List (Nat × Nat)) (k : Nat) : Nat → Nat := fun n => if n < L.length then L.getD n 0 else exq X k (n - L.length)
theorem mq_off (L : List Nat) (X : List (Nat × Nat)) (k n : Nat) : mq L X k (L.length + n) = exq X k n := by
  unfold mq
  rw [if_neg (Nat.not_lt.mpr (Nat.le_add_right _ _)), Nat.add_sub_cancel_left]
theorem ual_back {AL X : List (Nat × Nat)} {L : List Nat} {m : Nat} (hp : AL <+: X) (hm : m = X.length - AL.length) : AL ++ ual (mq L X AL.length) L.length m = X := by
  obtain ⟨Y, rfl⟩ := hp
  congr 1
  have hm : m = Y.length := by rw [hm, List.length_append, Nat.add_sub_cancel_left]
  subst hm
  unfold ual
  apply List.ext_getElem (by simp)
  intro j h1 h2
  rw [List.getElem_map, List.getElem_range, Nat.add_assoc, mq_off, mq_off]
  have e1 : exq (AL ++ Y) AL.length (2 * j) = (Y.getD j (0, 0)).1 := by
    unfold exq
    rw [if_pos (by omega), show 2 * j / 2 = j from by omega]
    simp [List.getElem?_append_right]
  have e2 : exq (AL ++ Y) AL.length (2 * j + 1) = (Y.getD j (0, 0)).2 := by
    unfold exq
    rw [if_neg (by omega), show (2 * j + 1) / 2 = j from by omega]
    simp [List.getElem?_append_right]
  rw [e1, e2]
  simp [h2]
theorem tl_C2 {X C : va_W} {kI : ClassId} {AL0 AL : List (Nat × Nat)} {PP : List PG} {n : Nat} (e : AL0 = AL) (is : List Nat) (h : is.map (fun i => (X ++ pgl kI AL PP)[i]?) = C.map some) (hn : X.length = n) : (is ++ tl_ n (pgl kI AL PP)).map (fun i => (X ++ pgl kI AL PP)[i]?) = (C ++ pgl kI AL0 PP).map some := by
  subst e
  exact tl_C is h hn
theorem tl_C3 {X : va_W} {kI : ClassId} {AL0 AL : List (Nat × Nat)} {PP : List PG} {n : Nat} {F : List (Nat × Nat) → va_W} (e : AL0 = AL) (is : List Nat) (h : is.map (fun i => (X ++ pgl kI AL PP)[i]?) = (F AL).map some) (hn : X.length = n) : (is ++ tl_ n (pgl kI AL PP)).map (fun i => (X ++ pgl kI AL PP)[i]?) = (F AL0 ++ pgl kI AL0 PP).map some := by
  subst e
  exact tl_C is h hn
theorem pad_app {X Y : List (Nat × Nat)} (h : 0 < X.length) : pad (X ++ Y) 0 = pad X 0 := by
  cases X with
  | nil => exact absurd h (Nat.lt_irrefl _)
  | cons a X => rfl
theorem nI_mk {x : Int32} {n : Nat} (h : x.toInt = n) : x = nI n := by
  have h1 := Int32.toInt_lt x
  exact Int32.toInt_inj.mp (h.trans (nI_toInt (by omega)).symm)
/-- what the pages tell is small -/
def PGS_ (PP : List PG) : Prop := ∀ k : Nat, (0 ≤ (pgd PP k).1.toInt ∧ (pgd PP k).1.toInt < 6) ∧ (0 ≤ (pgd PP k).2.1.toInt ∧ (pgd PP k).2.1.toInt < 1000000) ∧ PC9_ (pgd PP k).2.2.2
