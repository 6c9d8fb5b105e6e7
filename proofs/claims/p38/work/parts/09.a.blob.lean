/-! THE WHOLE OBJECT AS ONE WORLD: a contract over some of its cells is one over all of them -/
theorem FX_.cut {ad : Nat → Nat} {A B : Nat → Prop} {s : State} {H : Heap} (h : FX_ ad A s H) (hAB : ∀ q, B q → A q) : FX_ ad B s H := by
  obtain ⟨h1, ⟨h2, h2'⟩, ⟨h3, h3'⟩, h4, h5, h6, h7, h8, h9, h10, h11, h12, h13, h14, ⟨h15, h15'⟩, ⟨h16, h16'⟩, h17, h18, ⟨⟨h19, h19'⟩, ⟨h20, h20'⟩⟩, h21, h22⟩ := h
  exact ⟨h1.narrow hAB, ⟨h2.narrow hAB, h2'.narrow hAB⟩, ⟨h3.narrow hAB, h3'.narrow hAB⟩, h4.narrow hAB, h5.narrow hAB, h6.narrow hAB, h7, h8, h9, h10, h11, h12, h13, h14, ⟨h15.narrow hAB, h15'.narrow hAB⟩, ⟨h16, h16'⟩, h17.narrow hAB, fun k hk => (h18 k hk).narrow hAB, ⟨⟨h19.narrow hAB, h19'.narrow hAB⟩, ⟨h20.narrow hAB, h20'.narrow hAB⟩⟩, h21.narrow hAB, h22⟩
theorem va_P_at {D : va_G} {ws wc : va_W} {H : Heap} (hP : va_P D vwCl ws H) (isC : List Nat) (hC : isC.map (fun i => ws[i]?) = wc.map some) : va_P D vwCl wc H := by
  intro j z hj
  have h1 : (wc.map some)[j]? = some (some z) := by rw [List.getElem?_map, hj]; rfl
  rw [← hC, List.getElem?_map] at h1
  cases h2 : isC[j]? with
  | none => rw [h2] at h1; cases h1
  | some n =>
    rw [h2] at h1
    exact hP n z (Option.some.inj h1)
/-- an end with one of many worlds -/
def QB_ {β : Type} (D : va_G) (rv : β → Option Value) (po : β → Prop) (w1 : β → va_W) (t1 : β → List (ClassId × FieldType)) (A : Nat → Prop) : Array Value → State → Outcome → State → Prop :=
  fun _ st oc t => (∃ b : β, oc = .returned (rv b) ∧ po b ∧ va_P D vwCl (w1 b) t.heap ∧ va_K D vwCl (t1 b) t ∧ va_D A (w1 b)) ∧ va_F A st t
def XB_ {β : Type} (D : va_G) (px : String → β → Prop) (w1 : β → va_W) (t1 : β → List (ClassId × FieldType)) (A : Nat → Prop) : String → State → State → Prop :=
  fun E st t => (∃ b : β, px E b ∧ va_P D vwCl (w1 b) t.heap ∧ va_K D vwCl (t1 b) t ∧ va_D A (w1 b)) ∧ va_F A st t
theorem QB_.mk {β : Type} {D : va_G} {rv : β → Option Value} {po : β → Prop} {w1 : β → va_W} {t1 : β → List (ClassId × FieldType)} {A : Nat → Prop} {a : Array Value} {s : State} {H : Heap} {locs : List Loc} {ws : va_W} {tys : List (ClassId × FieldType)} {ov : Option Value} (b : β) (isC isT : List Nat)
    (hP : va_P D vwCl ws H) (hD : va_D A ws) (hK : va_K D vwCl tys s) (hS : va_S A s.heap H locs) (hv : ov = rv b) (hp : po b) (hC : isC.map (fun i => ws[i]?) = (w1 b).map some) (hn : va_nd isC = true) (hT : isT.filterMap (fun i => tys[i]?) = t1 b) :
    ∀ t : State, t.heap = H → s.WarmedH t.vm → QB_ D rv po w1 t1 A a s (.returned ov) t := by
  intro t ht hW
  exact ⟨⟨b, by rw [hv], hp, by rw [ht]; exact va_P_at hP isC hC, va_K.moved hW.alike (hK.sub isT hT), hD.sub isC hn hC⟩, hS.F ht⟩
theorem XB_.mk {β : Type} {D : va_G} {px : String → β → Prop} {w1 : β → va_W} {t1 : β → List (ClassId × FieldType)} {A : Nat → Prop} {s : State} {H : Heap} {locs : List Loc} {ws : va_W} {tys : List (ClassId × FieldType)} {E : String} (b : β) (isC isT : List Nat)
    (hP : va_P D vwCl ws H) (hD : va_D A ws) (hK : va_K D vwCl tys s) (hS : va_S A s.heap H locs) (hp : px E b) (hC : isC.map (fun i => ws[i]?) = (w1 b).map some) (hn : va_nd isC = true) (hT : isT.filterMap (fun i => tys[i]?) = t1 b) :
    ∀ t : State, s.vm.Alike t.vm → H.size ≤ t.heap.size → (∀ q : Nat, q < H.size → t.heap[q]? = H[q]?) → XB_ D px w1 t1 A E s t := by
  intro t hW hz hq
  exact ⟨⟨b, hp, (va_P_at hP isC hC).kept (fun j z hj => hq z.1 (va_P_at hP isC hC j z hj).lt), va_K.moved hW (hK.sub isT hT), hD.sub isC hn hC⟩, xt_ hS hz hq⟩
theorem XB_.out {β : Type} {D : va_G} {px : String → β → Prop} {w1 : β → va_W} {t1 : β → List (ClassId × FieldType)} {A : Nat → Prop} {s : State} {H : Heap} {E : String}
    (h : ∀ t : State, s.vm.Alike t.vm → H.size ≤ t.heap.size → (∀ q : Nat, q < H.size → t.heap[q]? = H[q]?) → XB_ D px w1 t1 A E s t) : ∀ t : State, t.heap = H → s.vm.Alike t.vm → XB_ D px w1 t1 A E s t :=
  fun t ht hW => h t hW (by rw [ht]; exact Nat.le_refl _) (fun q _ => by rw [ht])
section BLOB
variable {l : Launch} {y : MethodName} {ws : List Cond} {rm : Room} {mc ms : Nat} {D : va_G} {ad : Nat → Nat} {sz : Nat} {av : List Value} {wf wc wr : va_W} {tf tc tr : List (ClassId × FieldType)}
/-- the start over all cells gives the start over some -/
theorem PC_.sub (isC isT : List Nat) (hC : isC.map (fun i => wf[i]?) = wc.map some) (hn : va_nd isC = true) (hT : isT.filterMap (fun i => tf[i]?) = tc) {a : Array Value} {s : State} (h : PC_ D ad wf tf sz av a s) : PC_ D ad wc tc sz av a s := by
  obtain ⟨q0, q1, q2, q3, q4, q5⟩ := h
  subst q1
  have hF := va_free (wc := wc) (H := s.heap) (H0 := s.heap) (locs := []) (A0 := va_A wf s.heap.size) q4.self va_S.rf (fun q hq => Or.inr hq) isC hC
  exact ⟨q0, rfl, va_P_at q2 isC hC, q3.sub isT hT, (q4.sub isC hn hC).weaken (fun _ _ _ _ => trivial), q5.cut hF⟩
theorem PR_.sub (isC isT : List Nat) (hC : isC.map (fun i => wf[i]?) = wc.map some) (hT : isT.filterMap (fun i => tf[i]?) = tc) {a : Array Value} {s : State} (h : PC_ D ad wf tf sz av a s) : PR_ D ad wc tc sz av a s := by
  obtain ⟨q0, q1, q2, q3, q4, q5⟩ := h
  exact ⟨q0, q1, va_P_at q2 isC hC, q3.sub isT hT, q5.cut (fun q hq => Or.inr (va_A0 hq))⟩
/-- behind it: all cells again -/
theorem blob_join {q1 : va_W} {t1 : List (ClassId × FieldType)} {s t : State} {a : Array Value} (isC isR isTr : List Nat) (hC : isC.map (fun i => wf[i]?) = wc.map some) (hR : isR.map (fun i => wf[i]?) = wr.map some) (hnR : va_nd isR = true) (hdis : ∀ i ∈ isR, i ∉ isC) (hTr : isTr.filterMap (fun i => tf[i]?) = tr)
    (h : PC_ D ad wf tf sz av a s) (hW : s.WarmedH t.vm) (hP1 : va_P D vwCl q1 t.heap) (hK1 : va_K D vwCl t1 t) (hD1 : va_D (va_A wc sz) q1) (hz : s.heap.size ≤ t.heap.size) (hk : ∀ q : Nat, q < s.heap.size → ¬ va_A wc sz q → t.heap[q]? = s.heap[q]?) :
    va_P D vwCl (wr ++ q1) t.heap ∧ va_D (va_A wf sz) (wr ++ q1) ∧ va_K D vwCl (tr ++ t1) t ∧ va_F (va_A wf sz) s t := by
  obtain ⟨g0, g1, g2, g3, g4, g5⟩ := h
  subst g1
  have hF := va_free (wc := wc) (H := s.heap) (H0 := s.heap) (locs := []) (A0 := va_A wf s.heap.size) g4.self va_S.rf (fun q hq => Or.inr hq) isC hC
  have hj := va_join (wr := wr) (w1 := q1) g2 (g4.self (sz := s.heap.size)) isC isR hC hR hnR hdis hk hF hP1 hD1
  exact ⟨hj.1, hj.2, (va_K.moved hW.alike (g3.sub isTr hTr)).app hK1, hz, fun q h1 h2 => hk q h1 (fun z => h2 (hF q z))⟩
theorem blob_ {β : Type} {rv : (Nat → Nat) → (Nat → Int32) → Option Value} {po : (Nat → Nat) → (Nat → Int32) → Prop} {w1 : (Nat → Nat) → (Nat → ClassId) → (Nat → Int32) → va_W} {t1 : (Nat → Nat) → (Nat → ClassId) → (Nat → Int32) → List (ClassId × FieldType)} {rvB : β → Option Value} {poB : β → Prop} {wB : β → va_W} {tB : β → List (ClassId × FieldType)}
    (h : Met l y ws rm (PC_ D ad wc tc sz av) (QG_ D rv po w1 t1 (va_A wc sz)) mc ms (va_A wc sz)) (isC isT isR isTr : List Nat) (hC : isC.map (fun i => wf[i]?) = wc.map some) (hn : va_nd isC = true) (hT : isT.filterMap (fun i => tf[i]?) = tc) (hR : isR.map (fun i => wf[i]?) = wr.map some) (hnR : va_nd isR = true) (hdis : ∀ i ∈ isR, i ∉ isC) (hTr : isTr.filterMap (fun i => tf[i]?) = tr)
    (hb : ∀ (q : Nat → Nat) (k : Nat → ClassId) (i : Nat → Int32), po q i → ∃ b : β, rv q i = rvB b ∧ poB b ∧ ∃ pos tp : List Nat, pos.map (fun j => (wr ++ w1 q k i)[j]?) = (wB b).map some ∧ va_nd pos = true ∧ tp.filterMap (fun j => (tr ++ t1 q k i)[j]?) = tB b) :
    Met l y ws rm (PC_ D ad wf tf sz av) (QB_ D rvB poB wB tB (va_A wf sz)) mc ms (va_A wf sz) := by
  intro p e ha hc hk s m args below hf happ hpre hK
  obtain ⟨n, o, h1, h2, h3, ⟨⟨q, k, i, hv, hp, hP1, hK1, hD1⟩, hz, hke⟩, L, h5, h6⟩ := h p e ha hc hk s m args below hf happ (hpre.sub isC isT hC hn hT) hK
  obtain ⟨b, b1, b2, pos, tp, b3, b4, b5⟩ := hb q k i hp
  obtain ⟨j1, j2, j3, j4⟩ := blob_join isC isR isTr hC hR hnR hdis hTr hpre h5.2.1 hP1 hK1 hD1 hz hke
  refine ⟨n, o, h1, h2, h3, ⟨⟨b, by rw [hv, b1], b2, va_P_at j1 pos b3, j3.sub tp b5, j2.sub pos b4 b3⟩, j4⟩, L, h5, fun z hz9 => ?_⟩
  have g := hpre
  obtain ⟨g0, g1, g2, g3, g4, g5⟩ := g
  subst g1
  exact va_free (wc := wc) (H := s.heap) (H0 := s.heap) (locs := []) (A0 := va_A wf s.heap.size) g4.self va_S.rf (fun q hq => Or.inr hq) isC hC _ (h6 z hz9)
theorem blobx_ {β : Type} {rv : (Nat → Nat) → (Nat → Int32) → Option Value} {po : (Nat → Nat) → (Nat → Int32) → Prop} {px : String → Prop} {w1 : (Nat → Nat) → (Nat → ClassId) → (Nat → Int32) → va_W} {t1 : (Nat → Nat) → (Nat → ClassId) → (Nat → Int32) → List (ClassId × FieldType)} {rvB : β → Option Value} {poB : β → Prop} {pxB : String → β → Prop} {wB : β → va_W} {tB : β → List (ClassId × FieldType)}
    (h : vx_Met l y ws rm (PC_ D ad wc tc sz av) (QG_ D rv po w1 t1 (va_A wc sz)) (XG_ D px w1 t1 (va_A wc sz)) mc ms (va_A wc sz)) (isC isT isR isTr : List Nat) (hC : isC.map (fun i => wf[i]?) = wc.map some) (hn : va_nd isC = true) (hT : isT.filterMap (fun i => tf[i]?) = tc) (hR : isR.map (fun i => wf[i]?) = wr.map some) (hnR : va_nd isR = true) (hdis : ∀ i ∈ isR, i ∉ isC) (hTr : isTr.filterMap (fun i => tf[i]?) = tr)
    (hb : ∀ (q : Nat → Nat) (k : Nat → ClassId) (i : Nat → Int32), po q i → ∃ b : β, rv q i = rvB b ∧ poB b ∧ ∃ pos tp : List Nat, pos.map (fun j => (wr ++ w1 q k i)[j]?) = (wB b).map some ∧ va_nd pos = true ∧ tp.filterMap (fun j => (tr ++ t1 q k i)[j]?) = tB b)
    (hx : ∀ (E : String) (q : Nat → Nat) (k : Nat → ClassId) (i : Nat → Int32), px E → ∃ b : β, pxB E b ∧ ∃ pos tp : List Nat, pos.map (fun j => (wr ++ w1 q k i)[j]?) = (wB b).map some ∧ va_nd pos = true ∧ tp.filterMap (fun j => (tr ++ t1 q k i)[j]?) = tB b) :
    vx_Met l y ws rm (PC_ D ad wf tf sz av) (QB_ D rvB poB wB tB (va_A wf sz)) (XB_ D pxB wB tB (va_A wf sz)) mc ms (va_A wf sz) := by
  intro p e ha hc hk s m args below hf happ hpre hK
  have hfree : ∀ z, va_A wc sz z → va_A wf sz z := by
    obtain ⟨g0, g1, g2, g3, g4, g5⟩ := hpre
    subst g1
    exact va_free (wc := wc) (H := s.heap) (H0 := s.heap) (locs := []) (A0 := va_A wf s.heap.size) g4.self va_S.rf (fun q hq => Or.inr hq) isC hC
  obtain ⟨n, o, h1, h2, h3, h4⟩ := h p e ha hc hk s m args below hf happ (hpre.sub isC isT hC hn hT) hK
  refine ⟨n, o, h1, h2, h3, ?_⟩
  rcases h4 with ⟨⟨⟨q, k, i, hv, hp, hP1, hK1, hD1⟩, hz, hke⟩, L, h5, h6⟩ | ⟨q0, ho, E, ce, L, ⟨hE, ⟨q, k, i, hP1, hK1, hD1⟩, hz, hke⟩, x1, x2, x3, x4, x5, x6⟩
  · obtain ⟨b, b1, b2, pos, tp, b3, b4, b5⟩ := hb q k i hp
    obtain ⟨j1, j2, j3, j4⟩ := blob_join isC isR isTr hC hR hnR hdis hTr hpre h5.2.1 hP1 hK1 hD1 hz hke
    exact Or.inl ⟨⟨⟨b, by rw [hv, b1], b2, va_P_at j1 pos b3, j3.sub tp b5, j2.sub pos b4 b3⟩, j4⟩, L, h5, fun z hz9 => hfree _ (h6 z hz9)⟩
  · obtain ⟨b, b2, pos, tp, b3, b4, b5⟩ := hx E q k i hE
    obtain ⟨j1, j2, j3, j4⟩ := blob_join isC isR isTr hC hR hnR hdis hTr hpre x4 hP1 hK1 hD1 hz hke
    exact Or.inr ⟨q0, ho, E, ce, L, ⟨⟨b, b2, va_P_at j1 pos b3, j3.sub tp b5, j2.sub pos b4 b3⟩, j4⟩, x1, x2, x3, x4, x5, fun z hz9 => hfree _ (x6 z hz9)⟩
/-- a method that only reads: the same world behind it -/
theorem blobr_join {s t : State} {a : Array Value} (h : PC_ D ad wf tf sz av a s) (hW : s.WarmedH t.vm) (hz : s.heap.size ≤ t.heap.size) (hk : ∀ q : Nat, q < s.heap.size → ¬ va_A [] sz q → t.heap[q]? = s.heap[q]?) :
    va_P D vwCl wf t.heap ∧ va_D (va_A wf sz) wf ∧ va_K D vwCl tf t ∧ va_F (va_A wf sz) s t := by
  obtain ⟨g0, g1, g2, g3, g4, g5⟩ := h
  subst g1
  have hn : ∀ q, q < s.heap.size → t.heap[q]? = s.heap[q]? := fun q hq => hk q hq (fun z => absurd hq (Nat.not_lt.mpr (va_A0 z)))
  exact ⟨g2.kept (fun k q hq => hn q.1 (g2 k q hq).lt), g4.self, va_K.moved hW.alike g3, hz, fun q h1 _ => hn q h1⟩
theorem blobr_ {β : Type} {rv : Value} {rvB : β → Option Value} {poB : β → Prop} {wB : β → va_W} {tB : β → List (ClassId × FieldType)} (b : β)
    (h : Met l y ws rm (PR_ D ad wc tc sz av) (QR_ rv (va_A [] sz)) mc ms (va_A [] sz)) (isC isT : List Nat) (hC : isC.map (fun i => wf[i]?) = wc.map some) (hT : isT.filterMap (fun i => tf[i]?) = tc)
    (hv : some rv = rvB b) (hp : poB b) (hw : wf = wB b) (ht : tf = tB b) : Met l y ws rm (PC_ D ad wf tf sz av) (QB_ D rvB poB wB tB (va_A wf sz)) mc ms (va_A wf sz) := by
  intro p e ha hc hk s m args below hf happ hpre hK
  obtain ⟨n, o, h1, h2, h3, ⟨hv9, hz, hke⟩, L, h5, h6⟩ := h p e ha hc hk s m args below hf happ (PR_.sub isC isT hC hT hpre) hK
  obtain ⟨j1, j2, j3, j4⟩ := blobr_join hpre h5.2.1 hz hke
  refine ⟨n, o, h1, h2, h3, ⟨⟨b, by rw [hv9, hv], hp, by rw [← hw]; exact j1, by rw [← ht]; exact j3, by rw [← hw]; exact j2⟩, j4⟩, L, h5, fun z hz9 => Or.inr (va_A0 (h6 z hz9))⟩
theorem blobrx_ {β : Type} {hh : Prop} {rv : Option Value} {px : String → Prop} {rvB : β → Option Value} {poB : β → Prop} {pxB : String → β → Prop} {wB : β → va_W} {tB : β → List (ClassId × FieldType)} (b : β)
    (h : vx_Met l y ws rm (PR_ D ad wc tc sz av) (QRs_ hh rv (va_A [] sz)) (XR_ px (va_A [] sz)) mc ms (va_A [] sz)) (isC isT : List Nat) (hC : isC.map (fun i => wf[i]?) = wc.map some) (hT : isT.filterMap (fun i => tf[i]?) = tc)
    (hv : rv = rvB b) (hp : hh → poB b) (hpx : ∀ E, px E → pxB E b) (hw : wf = wB b) (ht : tf = tB b) : vx_Met l y ws rm (PC_ D ad wf tf sz av) (QB_ D rvB poB wB tB (va_A wf sz)) (XB_ D pxB wB tB (va_A wf sz)) mc ms (va_A wf sz) := by
  intro p e ha hc hk s m args below hf happ hpre hK
  obtain ⟨n, o, h1, h2, h3, h4⟩ := h p e ha hc hk s m args below hf happ (PR_.sub isC isT hC hT hpre) hK
  refine ⟨n, o, h1, h2, h3, ?_⟩
  rcases h4 with ⟨⟨hh9, hv9, hz, hke⟩, L, h5, h6⟩ | ⟨q0, ho, E, ce, L, ⟨hE, hz, hke⟩, x1, x2, x3, x4, x5, x6⟩
  · obtain ⟨j1, j2, j3, j4⟩ := blobr_join hpre h5.2.1 hz hke
    exact Or.inl ⟨⟨⟨b, by rw [hv9, hv], hp hh9, by rw [← hw]; exact j1, by rw [← ht]; exact j3, by rw [← hw]; exact j2⟩, j4⟩, L, h5, fun z hz9 => Or.inr (va_A0 (h6 z hz9))⟩
  · obtain ⟨j1, j2, j3, j4⟩ := blobr_join hpre x4 hz hke
    exact Or.inr ⟨q0, ho, E, ce, L, ⟨⟨b, hpx E hE, by rw [← hw]; exact j1, by rw [← ht]; exact j3, by rw [← hw]; exact j2⟩, j4⟩, x1, x2, x3, x4, x5, fun z hz9 => Or.inr (va_A0 (x6 z hz9))⟩
end BLOB
section KBB
variable {p : Program} {l : Launch} {e : Env} {R : Room} {s : State} {m : MethodId} {args : Array Value} {below : List Frame} {meth : Method} {c : Code} {H : Heap} {locs : List Loc} {cells slots : Nat} {Q : State → Prop}
variable {pc : Nat} {ls : Array Slot} {rest st0 : List Value} {a : Array Value} {A : Nat → Prop} {mc ms : Nat} {D : va_G} {ws wc wr : va_W} {tys tr : List (ClassId × FieldType)} {β : Type}
/-- behind a call that ends in one of many worlds -/
theorem kb_ {rv : β → Option Value} {po : β → Prop} {w1 : β → va_W} {t1 : β → List (ClassId × FieldType)}
    (hr : va_Run p l e R s m args below meth c H locs cells slots mc ms (F0 m pc ls st0) rest (QB_ D rv po w1 t1 (va_A wc H.size) a) (va_A wc H.size))
    (hK : va_K D vwCl tys s) (hP : va_P D vwCl ws H) (hD : va_D A ws) (hS : va_S A s.heap H locs) (hA : ∀ q, s.heap.size ≤ q → A q)
    (isC isR isT : List Nat) (hC : isC.map (fun i => ws[i]?) = wc.map some) (hR : isR.map (fun i => ws[i]?) = wr.map some) (hn : va_nd isR = true) (hdis : ∀ i ∈ isR, i ∉ isC) (hT : isT.filterMap (fun i => tys[i]?) = tr)
    (kk : ∀ (b : β) (H1 : Heap) (locs1 : List Loc), po b → va_P D vwCl (wr ++ w1 b) H1 → va_D A (wr ++ w1 b) → va_K D vwCl (tr ++ t1 b) s → va_S A s.heap H1 locs1 →
      W p l e R s m args below meth c H1 locs1 (cells + mc) (slots + ms) Q (F0 m (pc + 3) ls ((rv b).toList ++ rest))) : W p l e R s m args below meth c H locs cells slots Q (F0 m pc ls st0) := by
  intro T hT0 X
  obtain ⟨v, st₀, t, T', L, h0, X', hL, e1, e2, ⟨⟨b, hv, hp, hP1, hK1, hD1⟩, hz, hk⟩, st⟩ := hr T hT0 X
  have hFc := va_free (wc := wc) hD hS hA isC hC
  have hv : v = rv b := by injection hv
  subst hv
  rw [h0] at hz hk
  have hvm : s.vm.Alike t.vm := by rw [← e2]; exact X'.warmed.alike
  have hj := va_join (wr := wr) (w1 := w1 b) hP hD isC isR hC hR hn hdis hk hFc hP1 hD1
  obtain ⟨t2, a1, b1⟩ := kk b T'.heap (locs ++ L) hp (by rw [e1]; exact hj.1) hj.2 ((hK.sub isT hT).app (va_K.moved hvm.symm hK1))
    ⟨Nat.le_trans hS.1 (by rw [e1]; exact hz), fun x h1 h2 => by rw [e1, hk x (Nat.lt_of_lt_of_le h1 hS.1) (fun z => h2 (hFc x z))]; exact hS.2.1 x h1 h2, fun x hx => by
      rcases List.mem_append.mp hx with h | h
      · exact hS.2.2 x h
      · exact hFc _ (hL x h)⟩ T' rfl X'
  exact ⟨t2, st t2 a1, b1⟩
theorem kzb_ {rv : β → Option Value} {po : β → Prop} {px : String → β → Prop} {w1 : β → va_W} {t1 : β → List (ClassId × FieldType)}
    (hr : vx_Run p l e R s m args below meth c H locs cells slots mc ms (F0 m pc ls st0) rest (QB_ D rv po w1 t1 (va_A wc H.size) a) (XB_ D px w1 t1 (va_A wc H.size)) (va_A wc H.size))
    (hK : va_K D vwCl tys s) (hP : va_P D vwCl ws H) (hD : va_D A ws) (hS : va_S A s.heap H locs) (hA : ∀ q, s.heap.size ≤ q → A q)
    (isC isR isT : List Nat) (hC : isC.map (fun i => ws[i]?) = wc.map some) (hR : isR.map (fun i => ws[i]?) = wr.map some) (hn : va_nd isR = true) (hdis : ∀ i ∈ isR, i ∉ isC) (hT : isT.filterMap (fun i => tys[i]?) = tr)
    (kk : ∀ (b : β) (H1 : Heap) (locs1 : List Loc), po b → va_P D vwCl (wr ++ w1 b) H1 → va_D A (wr ++ w1 b) → va_K D vwCl (tr ++ t1 b) s → va_S A s.heap H1 locs1 →
      W p l e R s m args below meth c H1 locs1 (cells + mc) (slots + ms) Q (F0 m (pc + 3) ls ((rv b).toList ++ rest)))
    (kx : ∀ (E : String) (ce : Cell) (q9 : Addr) (b : β) (H1 : Heap) (locs1 : List Loc), px E b → va_P D vwCl (wr ++ w1 b) H1 → va_D A (wr ++ w1 b) → va_K D vwCl (tr ++ t1 b) s → va_S A s.heap H1 locs1 → H1[q9]? = some ce → ce.vm = .none → s.vm.findClass E = some ce.cls →
      vx_W p l e R s m args below meth c H1 locs1 (cells + mc) (slots + ms) Q (F0 m pc ls rest) q9) : W p l e R s m args below meth c H locs cells slots Q (F0 m pc ls st0) := by
  intro T hT0 X
  have hFc := va_free (wc := wc) hD hS hA isC hC
  have hH : ∀ (t T' : State) (b : β), T'.heap = t.heap → s.vm.Alike t.vm → H.size ≤ t.heap.size → (∀ q : Nat, q < H.size → ¬ va_A wc H.size q → t.heap[q]? = H[q]?) → va_P D vwCl (w1 b) t.heap → va_K D vwCl (t1 b) t → va_D (va_A wc H.size) (w1 b) → ∀ (L : List Loc), (∀ q ∈ L, va_A wc H.size q.base) →
      va_P D vwCl (wr ++ w1 b) T'.heap ∧ va_D A (wr ++ w1 b) ∧ va_K D vwCl (tr ++ t1 b) s ∧ va_S A s.heap T'.heap (locs ++ L) := by
    intro t T' b e1 hvm hz hk hP1 hK1 hD1 L hL
    have hj := va_join (wr := wr) (w1 := w1 b) hP hD isC isR hC hR hn hdis hk hFc hP1 hD1
    refine ⟨by rw [e1]; exact hj.1, hj.2, (hK.sub isT hT).app (va_K.moved hvm.symm hK1), Nat.le_trans hS.1 (by rw [e1]; exact hz), fun x h1 h2 => by rw [e1, hk x (Nat.lt_of_lt_of_le h1 hS.1) (fun z => h2 (hFc x z))]; exact hS.2.1 x h1 h2, fun x hx => ?_⟩
    rcases List.mem_append.mp hx with h | h
    · exact hS.2.2 x h
    · exact hFc _ (hL x h)
  rcases hr T hT0 X with ⟨v, st₀, t, T', L, h0, X', hL, e1, e2, ⟨⟨b, hv, hp, hP1, hK1, hD1⟩, hz, hk⟩, st⟩ | ⟨q9, st₀, t, T', L, E, ce, h0, X', hL, e1, e2, ⟨⟨b, hE, hP1, hK1, hD1⟩, hz, hk⟩, hce, hvm9, hcl, st⟩
  · have hv : v = rv b := by injection hv
    subst hv
    rw [h0] at hz hk
    have hvm : s.vm.Alike t.vm := by rw [← e2]; exact X'.warmed.alike
    obtain ⟨g1, g2, g3, g4⟩ := hH t T' b e1 hvm hz hk hP1 hK1 hD1 L hL
    obtain ⟨t2, a1, b1⟩ := kk b T'.heap (locs ++ L) hp g1 g2 g3 g4 T' rfl X'
    exact ⟨t2, st t2 a1, b1⟩
  · rw [h0] at hz hk
    have hvm : s.vm.Alike t.vm := by rw [← e2]; exact X'.warmed.alike
    obtain ⟨g1, g2, g3, g4⟩ := hH t T' b e1 hvm hz hk hP1 hK1 hD1 L hL
    obtain ⟨t2, a1, b1⟩ := kx E ce q9 b T'.heap (locs ++ L) hE g1 g2 g3 g4 (by rw [e1]; exact hce) hvm9 hcl T' rfl X'
    exact ⟨t2, st.trans a1, b1⟩
end KBB
/-! places in the whole: some cells ahead, what is made in between, the pages and what is kept behind -/
def sh_ (n t i : Nat) : Nat := if i < n then i else i + t
theorem sh_get {X T Y Z : va_W} {n i : Nat} (hn : X.length = n) (hi : i < n + Y.length) : ((X ++ T) ++ (Y ++ Z))[sh_ n T.length i]? = (X ++ Y)[i]? := by
  subst hn
  unfold sh_
  by_cases h : i < X.length
  · rw [if_pos h, List.getElem?_append_left (by rw [List.length_append]; omega), List.getElem?_append_left h, List.getElem?_append_left h]
  · have e1 : ((X ++ T) ++ (Y ++ Z))[i + T.length]? = (Y ++ Z)[i - X.length]? := by
      rw [List.getElem?_append_right (by rw [List.length_append]; omega), List.length_append, show i + T.length - (X.length + T.length) = i - X.length from by omega]
    have e2 : (X ++ Y)[i]? = Y[i - X.length]? := List.getElem?_append_right (by omega)
    rw [if_neg h, e1, e2, List.getElem?_append_left (by omega)]
theorem sh_map {X T Y Z C : va_W} {n m : Nat} (hn : X.length = n) (hm : Y.length = m) (hp : List Nat) (h1 : hp.map (fun i => (X ++ Y)[i]?) = C.map some) (hb : ∀ i ∈ hp, i < n + m) : (hp.map (sh_ n T.length)).map (fun i => ((X ++ T) ++ (Y ++ Z))[i]?) = C.map some := by
  rw [← h1, List.map_map]
  exact List.map_congr_left (fun i hi => sh_get hn (by rw [hm]; exact hb i hi))
theorem tl_mid {X T Z : va_W} {n : Nat} (hn : X.length = n) : (tl_ n T).map (fun i => ((X ++ T) ++ Z)[i]?) = T.map some := by
  subst hn
  unfold tl_
  apply List.ext_getElem (by simp)
  intro i h1 h2
  simp at h1 h2 ⊢
  rw [List.getElem?_append_right (Nat.le_add_right _ _), Nat.add_sub_cancel_left, List.getElem?_append_left h2]
  exact List.getElem?_eq_getElem h2
theorem tl_end {X T Y P : va_W} {n m : Nat} (hn : X.length = n) (hm : Y.length = m) : (tl_ (n + T.length + m) P).map (fun i => ((X ++ T) ++ (Y ++ P))[i]?) = P.map some := by
  rw [← List.append_assoc]
  exact tl_get (by rw [List.length_append, List.length_append, hn, hm])
/-- behind a method that may have made pages: the same things kept -/
theorem tl_T {X T Y P C : va_W} {n m : Nat} (hn : X.length = n) (hm : Y.length = m) (hp : List Nat) (h1 : hp.map (fun i => (X ++ Y)[i]?) = C.map some) (hb : ∀ i ∈ hp, i < n + m) :
    (hp.map (sh_ n T.length) ++ (tl_ (n + T.length + m) P ++ tl_ n T)).map (fun i => ((X ++ T) ++ (Y ++ P))[i]?) = (C ++ (P ++ T)).map some := by
  rw [List.map_append, List.map_append, List.map_append, List.map_append, sh_map hn hm hp h1 hb, tl_mid hn, tl_end hn hm]
/-- .. other things kept -/
theorem tl_K {X T Y P C K : va_W} {n m : Nat} (hn : X.length = n) (hm : Y.length = m) (hp kp : List Nat) (h1 : hp.map (fun i => (X ++ Y)[i]?) = C.map some) (h2 : kp.map (fun i => (X ++ Y)[i]?) = K.map some) (hb : ∀ i ∈ hp, i < n + m) (hb2 : ∀ i ∈ kp, i < n + m) :
    (hp.map (sh_ n T.length) ++ (tl_ (n + T.length + m) P ++ kp.map (sh_ n T.length))).map (fun i => ((X ++ T) ++ (Y ++ P))[i]?) = (C ++ (P ++ K)).map some := by
  rw [List.map_append, List.map_append, List.map_append, List.map_append, sh_map hn hm hp h1 hb, sh_map hn hm kp h2 hb2, tl_end hn hm]
theorem sh_inj {n t i j : Nat} (h : sh_ n t i = sh_ n t j) : i = j := by
  unfold sh_ at h
  split at h <;> split at h <;> omega
theorem sh_nd {n t : Nat} {hp : List Nat} (h : hp.Nodup) : (hp.map (sh_ n t)).Nodup := List.pairwise_map.mpr (h.imp (fun z e => z (sh_inj e)))
theorem tl_lt {n : Nat} {pl : va_W} {i : Nat} (h : i ∈ tl_ n pl) : i < n + pl.length := by
  obtain ⟨j, hj, e⟩ := List.mem_map.mp h
  have := List.mem_range.mp hj
  omega
theorem tl_ndp {n : Nat} {pl : va_W} : (tl_ n pl).Nodup := List.pairwise_map.mpr (List.nodup_range.imp (fun h e => h (Nat.add_left_cancel e)))
theorem sh_lt {n t m i : Nat} (h : i < n + m) : sh_ n t i < n + t + m := by unfold sh_; split <;> omega
theorem sh_out {n t i : Nat} : sh_ n t i < n ∨ n + t ≤ sh_ n t i := by unfold sh_; split <;> omega
theorem tl_Tn {T P : va_W} {n m : Nat} (hp : List Nat) (h : va_nd hp = true) (hb : ∀ i ∈ hp, i < n + m) : va_nd (hp.map (sh_ n T.length) ++ (tl_ (n + T.length + m) P ++ tl_ n T)) = true := by
  rw [va_nd_iff] at h ⊢
  refine List.nodup_append.mpr ⟨sh_nd h, List.nodup_append.mpr ⟨tl_ndp, tl_ndp, fun a ha b hb e => ?_⟩, fun a ha b hb9 e => ?_⟩
  · have h1 := tl_ge ha
    have h2 := tl_lt hb
    omega
  · obtain ⟨i, hi, rfl⟩ := List.mem_map.mp ha
    have h0 : sh_ n T.length i < n + T.length + m := sh_lt (hb i hi)
    have h4 : sh_ n T.length i < n ∨ n + T.length ≤ sh_ n T.length i := sh_out
    rcases List.mem_append.mp hb9 with h9 | h9
    · have h1 := tl_ge h9
      omega
    · have h1 := tl_ge h9
      have h2 := tl_lt h9
      omega
theorem tl_Kn {T P : va_W} {n m : Nat} (hp kp : List Nat) (h : va_nd (hp ++ kp) = true) (hb : ∀ i ∈ hp, i < n + m) (hb2 : ∀ i ∈ kp, i < n + m) : va_nd (hp.map (sh_ n T.length) ++ (tl_ (n + T.length + m) P ++ kp.map (sh_ n T.length))) = true := by
  rw [va_nd_iff] at h ⊢
  obtain ⟨h1, h2, h3⟩ := List.nodup_append.mp h
  refine List.nodup_append.mpr ⟨sh_nd h1, List.nodup_append.mpr ⟨tl_ndp, sh_nd h2, fun a ha b hb e => ?_⟩, fun a ha b hb9 e => ?_⟩
  · obtain ⟨i, hi, rfl⟩ := List.mem_map.mp hb
    have h0 : sh_ n T.length i < n + T.length + m := sh_lt (hb2 i hi)
    have h4 := tl_ge ha
    omega
  · obtain ⟨i, hi, rfl⟩ := List.mem_map.mp ha
    have h0 : sh_ n T.length i < n + T.length + m := sh_lt (hb i hi)
    rcases List.mem_append.mp hb9 with h9 | h9
    · have h1 := tl_ge h9
      omega
    · obtain ⟨j, hj, e2⟩ := List.mem_map.mp h9
      exact h3 i hi j hj (sh_inj (e.trans e2.symm))
/-- ahead of it: some cells and the pages -/
theorem tl_P {X P T C : va_W} {n : Nat} (hn : X.length = n) (is : List Nat) (h : is.map (fun i => (X ++ (P ++ T))[i]?) = C.map some) : (is ++ tl_ n P).map (fun i => (X ++ (P ++ T))[i]?) = (C ++ P).map some := by
  rw [List.map_append, List.map_append, h]
  congr 1
  rw [← List.append_assoc]
  exact tl_mid hn
theorem tl_R {X P T C : va_W} {n : Nat} (hn : X.length = n) (rs : List Nat) (h : rs.map (fun i => (X ++ (P ++ T))[i]?) = C.map some) : (rs ++ tl_ (n + P.length) T).map (fun i => (X ++ (P ++ T))[i]?) = (C ++ T).map some := by
  rw [List.map_append, List.map_append, h]
  congr 1
  rw [← List.append_assoc]
  exact tl_get (by rw [List.length_append, hn])
theorem tl_PR {P T : va_W} {n : Nat} (is rs : List Nat) (h : ∀ i ∈ rs, i ∉ is) (h1 : ∀ i ∈ is, i < n) (h2 : ∀ i ∈ rs, i < n) : ∀ i ∈ rs ++ tl_ (n + P.length) T, i ∉ is ++ tl_ n P := fun i hi z => by
  rcases List.mem_append.mp hi with a | a <;> rcases List.mem_append.mp z with b | b
  · exact h i a b
  · have := h2 i a; have := tl_ge b; omega
  · have := h1 i b; have := tl_ge a; omega
  · have := tl_lt b; have := tl_ge a; omega
theorem tl_lt9 {N m : Nat} (is : List Nat) (h : ∀ i ∈ is, i < N) : ∀ i ∈ is, i < N + m := fun i hi => Nat.lt_of_lt_of_le (h i hi) (Nat.le_add_right _ _)
theorem blp_ {AL : List (Nat × Nat)} {PP PP' : List PG} {q : Nat → Nat} {o : Nat} (h : AL.length = PP.length) (h0 : 0 < PP.length) (h1 : PP.length ≤ PP'.length) (h2 : PP'.length ≤ 2000000) : (AL ++ ual q o (PP'.length - PP.length)).length = PP'.length ∧ 0 < PP'.length ∧ PP'.length ≤ 2000000 := ⟨by rw [ual_len]; omega, by omega, h2⟩
theorem kp_at {X P T : va_W} {n j : Nat} (hn : X.length = n) : (X ++ (P ++ T))[n + P.length + j]? = T[j]? := by
  subst hn
  rw [List.getElem?_append_right (by omega), List.getElem?_append_right (by omega)]
  congr 1
  omega
