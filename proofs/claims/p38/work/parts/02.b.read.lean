/-! READING METHODS: a start and an end in one form, a call in one row; loops by fuel -/
def ix (i : Int32) : Nat := i.toNatClampNeg
theorem ix_toNat (i : Int32) : ix i = i.toInt.toNat := rfl
theorem vinI {i : Int32} {n : Nat} (h1 : 0 ≤ i.toInt) (h2 : i.toInt < n) : vp_in i n := vp_in_iff.mpr ⟨h1, h2⟩
def rmI (x y : Int32) : Int32 := x - x / y * y
def axI (x y : Int32) : Int32 := if x < y then y else x
def inI (x y : Int32) : Int32 := if y < x then y else x
theorem nlt0 {x : Int32} (h : 0 ≤ x.toInt) : ¬ x < 0 := fun z => by
  have h1 := f_lt z
  have e0 : (0 : Int32).toInt = 0 := by decide +kernel
  omega
theorem ne0_ {x : Int32} (h : 0 < x.toInt) : ¬ x = 0 := fun z => by
  have e0 : (0 : Int32).toInt = 0 := by decide +kernel
  rw [z] at h
  omega
theorem cpb_ {x y : Int32} {n : Nat} (h : x.toInt + y.toInt ≤ n) (h1 : 0 ≤ x.toInt) (h2 : 0 ≤ y.toInt) : x.toNatClampNeg + y.toNatClampNeg ≤ n := by
  show x.toInt.toNat + y.toInt.toNat ≤ n
  omega
theorem f_neq {a b : Int32} (h : ¬ a = b) : a.toInt ≠ b.toInt := fun e => h (Int32.toInt_inj.mp e)
theorem bm_ {z : Int} (h1 : -2147483648 ≤ z) (h2 : z < 2147483648) : z.bmod (2 ^ 32) = z := by
  show z.bmod 4294967296 = z
  exact Int.bmod_eq_of_le (m := 4294967296) (by omega) (by omega)
theorem addI {a b : Int32} (h1 : -2147483648 ≤ a.toInt + b.toInt) (h2 : a.toInt + b.toInt < 2147483648) : (a + b).toInt = a.toInt + b.toInt := by
  rw [Int32.toInt_add]
  exact bm_ h1 h2
theorem subI {a b : Int32} (h1 : -2147483648 ≤ a.toInt - b.toInt) (h2 : a.toInt - b.toInt < 2147483648) : (a - b).toInt = a.toInt - b.toInt := by
  rw [Int32.toInt_sub]
  exact bm_ h1 h2
theorem mulI {a b : Int32} (h1 : -2147483648 ≤ a.toInt * b.toInt) (h2 : a.toInt * b.toInt < 2147483648) : (a * b).toInt = a.toInt * b.toInt := by
  rw [Int32.toInt_mul]
  exact bm_ h1 h2
theorem mulL {a b : Int32} {k : Int} (ha : a.toInt = k) (h1 : -2147483648 ≤ k * b.toInt) (h2 : k * b.toInt < 2147483648) : (a * b).toInt = k * b.toInt := by
  subst ha
  exact mulI h1 h2
theorem mulR {a b : Int32} {k : Int} (hb : b.toInt = k) (h1 : -2147483648 ≤ a.toInt * k) (h2 : a.toInt * k < 2147483648) : (a * b).toInt = a.toInt * k := by
  subst hb
  exact mulI h1 h2
theorem incI {x n : Int32} (h : x.toInt < n.toInt) : (x + 1).toInt = x.toInt + 1 := by
  have h1 := Int32.toInt_lt n
  have h2 := Int32.le_toInt x
  have e1 : (1 : Int32).toInt = 1 := by decide +kernel
  have e : (x + 1).toInt = x.toInt + (1 : Int32).toInt := addI (by omega) (by omega)
  rw [e, e1]
theorem ix6 {a b : Int32} (ha : 0 ≤ a.toInt) (ha2 : a.toInt < 6) (hb : 0 ≤ b.toInt) (hb2 : b.toInt < 6) : (a * 6 + b).toInt = a.toInt * 6 + b.toInt := by
  have e6 : (6 : Int32).toInt = 6 := by decide +kernel
  have e : (a * 6).toInt = a.toInt * (6 : Int32).toInt := mulI (by rw [e6]; omega) (by rw [e6]; omega)
  rw [e6] at e
  rw [addI (by omega) (by omega), e]
theorem lp_up {n x : Int32} {k : Nat} (hk : (n.toInt - x.toInt).toNat < k + 1) (c : ¬ n ≤ x) : (n.toInt - (x + 1).toInt).toNat < k := by
  have h := f_nle c
  have e := incI h
  omega
theorem lp_upL {n x : Int32} {k : Nat} (hk : (n.toInt + 1 - x.toInt).toNat < k + 1) (c : ¬ n < x) (h9 : x.toInt < 2147483647 := by first | omega | decide) : (n.toInt + 1 - (x + 1).toInt).toNat < k := by
  have h1 := f_nlt c
  have h2 := Int32.le_toInt x
  have e1 : (1 : Int32).toInt = 1 := by decide +kernel
  have e : (x + 1).toInt = x.toInt + (1 : Int32).toInt := addI (by omega) (by omega)
  omega
theorem lp_up0L {n x : Int32} (hz : 0 ≤ x.toInt) (c : ¬ n < x) (h9 : x.toInt < 2147483647 := by first | omega | decide) : 0 ≤ (x + 1).toInt := by
  have e1 : (1 : Int32).toInt = 1 := by decide +kernel
  have e : (x + 1).toInt = x.toInt + (1 : Int32).toInt := addI (by omega) (by omega)
  omega
theorem lp_up0 {n x : Int32} (hz : 0 ≤ x.toInt) (c : ¬ n ≤ x) : 0 ≤ (x + 1).toInt := by
  have e := incI (f_nle c)
  omega
def PR_ (D : va_G) (ad : Nat → Nat) (ws : va_W) (tys : List (ClassId × FieldType)) (sz : Nat) (av : List Value) : Array Value → State → Prop :=
  va_Pc av (fun U => U.heap.size = sz ∧ va_P D vwCl ws U.heap ∧ va_K D vwCl tys U ∧ FX_ ad (va_A [] sz) U U.heap)
theorem PR_.blind {D : va_G} {ad : Nat → Nat} {ws : va_W} {tys : List (ClassId × FieldType)} {sz : Nat} {av : List Value} : FrameBlind (PR_ D ad ws tys sz av) :=
  fun a U g mk q => by
    obtain ⟨q0, q1, q2, q3, q5⟩ := q
    exact ⟨q0, q1, q2, va_K.moved (u := U) (U := U.calling g mk a) (Vm.Alike.refl U.vm) q3, FX_.same (u := U) (U := U.calling g mk a) rfl q5⟩
theorem va_A0 {sz q : Nat} (h : va_A [] sz q) : sz ≤ q := h.elim (fun ⟨k, e, z⟩ => by simp at z) id
theorem PR_.pre {D : va_G} {ad : Nat → Nat} {A : Nat → Prop} {wc : va_W} {tys tc : List (ClassId × FieldType)} {s : State} {H : Heap} {locs : List Loc} {av : List Value} (hF : FX_ ad A s s.heap) (hK : va_K D vwCl tys s) (hPc : va_P D vwCl wc H) (hS : va_S A s.heap H locs) (hA : ∀ q, s.heap.size ≤ q → A q)
    (isT : List Nat) (hT : isT.filterMap (fun i => tys[i]?) = tc) :
    ∀ U : State, U.heap = H → s.WarmedH U.vm → PR_ D ad wc tc H.size av av.toArray U := by
  intro U hU hW
  subst hU
  exact ⟨rfl, rfl, hPc, va_K.moved hW.alike (hK.sub isT hT), FX_.warm hW hF hS.2.1 (fun q hq => hA q (Nat.le_trans hS.1 (va_A0 hq)))⟩
def QR_ (rv : Value) (A : Nat → Prop) : Array Value → State → Outcome → State → Prop := fun _ st oc t => oc = .returned (some rv) ∧ va_F A st t
theorem QR_.mk {rv : Value} {A : Nat → Prop} {a : Array Value} {s : State} {H : Heap} {locs : List Loc} {ov : Option Value} (hS : va_S A s.heap H locs) (hv : ov = some rv) : ∀ t : State, t.heap = H → s.WarmedH t.vm → QR_ rv A a s (.returned ov) t := fun t ht _ => ⟨by rw [hv], hS.F ht⟩
/-- reading methods that may throw -/
def QRs_ (h : Prop) (rv : Option Value) (A : Nat → Prop) : Array Value → State → Outcome → State → Prop := fun _ st oc t => h ∧ oc = .returned rv ∧ va_F A st t
theorem QRs_.mk {h : Prop} {rv : Option Value} {A : Nat → Prop} {a : Array Value} {s : State} {H : Heap} {locs : List Loc} {ov : Option Value} (hS : va_S A s.heap H locs) (hh : h) (hv : ov = rv) : ∀ t : State, t.heap = H → s.WarmedH t.vm → QRs_ h rv A a s (.returned ov) t := fun t ht _ => ⟨hh, by rw [hv], hS.F ht⟩
def XR_ (px : String → Prop) (A : Nat → Prop) : String → State → State → Prop := fun E st t => px E ∧ va_F A st t
/-- what a method that writes and throws owes: the same world as at its end -/
def XG_ (D : va_G) (px : String → Prop) (w1 : (Nat → Nat) → (Nat → ClassId) → (Nat → Int32) → va_W) (t1 : (Nat → Nat) → (Nat → ClassId) → (Nat → Int32) → List (ClassId × FieldType)) (A : Nat → Prop) : String → State → State → Prop := fun E st t => px E ∧ (∃ (q : Nat → Nat) (k : Nat → ClassId) (i : Nat → Int32), WB_ D w1 t1 A q k i t) ∧ va_F A st t
theorem XG_.mk {D : va_G} {px : String → Prop} {w1 : (Nat → Nat) → (Nat → ClassId) → (Nat → Int32) → va_W} {t1 : (Nat → Nat) → (Nat → ClassId) → (Nat → Int32) → List (ClassId × FieldType)} {A : Nat → Prop} {s : State} {H : Heap} {locs : List Loc} {ws : va_W} {tys : List (ClassId × FieldType)} {E : String} (q : Nat → Nat) (k : Nat → ClassId) (i : Nat → Int32) (isC isT : List Nat)
    (hP : va_P D vwCl ws H) (hD : va_D A ws) (hK : va_K D vwCl tys s) (hS : va_S A s.heap H locs) (hp : px E) (hC : isC.map (fun i => ws[i]?) = (w1 q k i).map some) (hn : va_nd isC = true) (hT : isT.filterMap (fun i => tys[i]?) = t1 q k i) :
    ∀ t : State, s.vm.Alike t.vm → H.size ≤ t.heap.size → (∀ q : Nat, q < H.size → t.heap[q]? = H[q]?) → XG_ D px w1 t1 A E s t := by
  intro t hW hz hq
  have hPc : va_P D vwCl (w1 q k i) H := by
    intro j z hj
    have h1 : ((w1 q k i).map some)[j]? = some (some z) := by rw [List.getElem?_map, hj]; rfl
    rw [← hC, List.getElem?_map] at h1
    cases h2 : isC[j]? with
    | none => rw [h2] at h1; cases h1
    | some n =>
      rw [h2] at h1
      have h3 : ws[n]? = some z := Option.some.inj h1
      exact hP n z h3
  exact ⟨hp, ⟨q, k, i, hPc.kept (fun j z hj => hq z.1 (hPc j z hj).lt), va_K.moved hW (hK.sub isT hT), hD.sub isC hn hC⟩, xt_ hS hz hq⟩
theorem XG_.out {D : va_G} {px : String → Prop} {w1 : (Nat → Nat) → (Nat → ClassId) → (Nat → Int32) → va_W} {t1 : (Nat → Nat) → (Nat → ClassId) → (Nat → Int32) → List (ClassId × FieldType)} {A : Nat → Prop} {s : State} {H : Heap} {E : String}
    (h : ∀ t : State, s.vm.Alike t.vm → H.size ≤ t.heap.size → (∀ q : Nat, q < H.size → t.heap[q]? = H[q]?) → XG_ D px w1 t1 A E s t) : ∀ t : State, t.heap = H → s.vm.Alike t.vm → XG_ D px w1 t1 A E s t :=
  fun t ht hW => h t hW (by rw [ht]; exact Nat.le_refl _) (fun q _ => by rw [ht])
theorem ofWF_ {l : Launch} {y : MethodName} {ws ws' : List Cond} {rm : Room} {Pc : Array Value → State → Prop} {Qc : Array Value → State → Outcome → State → Prop} {mc ms : Nat} {free : Addr → Prop} {cc : ByteArray} {maxL : Nat} {ret : Option FieldType}
    (hy : plainFor y = true) (hw : ws = Cond.code y cc maxL ret :: ws')
    (body : ∀ p e s m args below meth c s₁, BodyLoose p l y (headSpec ws rm) cc maxL ret e s m args below meth c s₁ → c.maxLocals = maxL → Pc args s →
      W p l e (headSpec ws rm).room s m args below meth c s.heap [] 0 0 (MQ below Qc args s mc ms free) (entryFrame m args maxL)) : Met l y ws rm Pc Qc mc ms free := by
  refine MetFree.of_bodySF (code := cc) (maxLocals := maxL) (ret := ret) hy ?_ ?_
  · intro args s m h hn
    obtain ⟨meth, c, h1, h2, h3, h4, h5, h6, -, -⟩ := Cond.code_spec hn (atoms_spec (ws := ws) h _ (by rw [hw]; exact List.mem_cons_self))
    exact ⟨meth, c, h1, h2, h3, h4, h5, h6⟩
  · intro p e s m args below meth c s₁ B hml hP _
    have hh0 : s₁.heap = s.heap := by rw [B.state]; rfl
    obtain ⟨t, a1, o, b1, b2, b3⟩ := body p e s m args below meth c s₁ B hml hP s₁ hh0 (Stand.of_body B)
    exact ⟨t, o, a1, b1, b2, ⟨b3.1, b3.2⟩⟩
section KRR
variable {p : Program} {l : Launch} {e : Env} {R : Room} {s : State} {m : MethodId} {args : Array Value} {below : List Frame} {meth : Method} {c : Code} {H : Heap} {locs : List Loc} {cells slots : Nat} {Q : State → Prop}
variable {pc : Nat} {ls : Array Slot} {rest st0 : List Value} {a : Array Value} {A : Nat → Prop} {mc ms : Nat} {D : va_G} {ws : va_W}
/-- behind a call that only reads -/
theorem kr_ {rv : Value} (hr : va_Run p l e R s m args below meth c H locs cells slots mc ms (F0 m pc ls st0) rest (QR_ rv (va_A [] H.size) a) (va_A [] H.size))
    (hP : va_P D vwCl ws H) (hS : va_S A s.heap H locs) (hA : ∀ q, s.heap.size ≤ q → A q)
    (kk : ∀ (H1 : Heap) (locs1 : List Loc), va_P D vwCl ws H1 → va_S A s.heap H1 locs1 → W p l e R s m args below meth c H1 locs1 (cells + mc) (slots + ms) Q (F0 m (pc + 3) ls (rv :: rest))) : W p l e R s m args below meth c H locs cells slots Q (F0 m pc ls st0) := by
  intro T hT0 X
  obtain ⟨v, st₀, t, T', L, h0, X', hL, e1, e2, ⟨hv, hz, hk⟩, st⟩ := hr T hT0 X
  have hv : v = some rv := by injection hv
  subst hv
  rw [h0] at hz hk
  have hn : ∀ q, q < H.size → T'.heap[q]? = H[q]? := fun q hq => by rw [e1]; exact hk q hq (fun z => absurd hq (Nat.not_lt.mpr (va_A0 z)))
  obtain ⟨t2, a1, b1⟩ := kk T'.heap (locs ++ L) (hP.kept (fun k q hq => hn q.1 (hP k q hq).lt))
    ⟨Nat.le_trans hS.1 (by rw [e1]; exact hz), fun x h1 h2 => by rw [hn x (Nat.lt_of_lt_of_le h1 hS.1)]; exact hS.2.1 x h1 h2, fun x hx => by
      rcases List.mem_append.mp hx with h | h
      · exact hS.2.2 x h
      · exact hA _ (Nat.le_trans hS.1 (va_A0 (hL x h)))⟩ T' rfl X'
  exact ⟨t2, st t2 a1, b1⟩
/-- behind a call that only reads, and may throw -/
theorem kzr_ {h : Prop} {rv : Option Value} {px : String → Prop} (hr : vx_Run p l e R s m args below meth c H locs cells slots mc ms (F0 m pc ls st0) rest (QRs_ h rv (va_A [] H.size) a) (XR_ px (va_A [] H.size)) (va_A [] H.size))
    (hP : va_P D vwCl ws H) (hS : va_S A s.heap H locs) (hA : ∀ q, s.heap.size ≤ q → A q)
    (kk : ∀ (H1 : Heap) (locs1 : List Loc), h → va_P D vwCl ws H1 → va_S A s.heap H1 locs1 → W p l e R s m args below meth c H1 locs1 (cells + mc) (slots + ms) Q (F0 m (pc + 3) ls (rv.toList ++ rest)))
    (kx : ∀ (E : String) (ce : Cell) (q9 : Addr) (H1 : Heap) (locs1 : List Loc), px E → va_P D vwCl ws H1 → va_S A s.heap H1 locs1 → H1[q9]? = some ce → ce.vm = .none → s.vm.findClass E = some ce.cls →
      vx_W p l e R s m args below meth c H1 locs1 (cells + mc) (slots + ms) Q (F0 m pc ls rest) q9) : W p l e R s m args below meth c H locs cells slots Q (F0 m pc ls st0) := by
  intro T hT0 X
  have hH : ∀ (t T' : State), T'.heap = t.heap → H.size ≤ t.heap.size → (∀ q : Nat, q < H.size → ¬ va_A [] H.size q → t.heap[q]? = H[q]?) → ∀ (L : List Loc), (∀ q ∈ L, va_A [] H.size q.base) → va_P D vwCl ws T'.heap ∧ va_S A s.heap T'.heap (locs ++ L) := by
    intro t T' e1 hz hk L hL
    have hn : ∀ q, q < H.size → T'.heap[q]? = H[q]? := fun q hq => by rw [e1]; exact hk q hq (fun z => absurd hq (Nat.not_lt.mpr (va_A0 z)))
    refine ⟨hP.kept (fun k q hq => hn q.1 (hP k q hq).lt), Nat.le_trans hS.1 (by rw [e1]; exact hz), fun x h1 h2 => by rw [hn x (Nat.lt_of_lt_of_le h1 hS.1)]; exact hS.2.1 x h1 h2, fun x hx => ?_⟩
    rcases List.mem_append.mp hx with h | h
    · exact hS.2.2 x h
    · exact hA _ (Nat.le_trans hS.1 (va_A0 (hL x h)))
  rcases hr T hT0 X with ⟨v, st₀, t, T', L, h0, X', hL, e1, e2, ⟨hh, hv, hz, hk⟩, st⟩ | ⟨q, st₀, t, T', L, E, ce, h0, X', hL, e1, e2, ⟨hE, hz, hk⟩, hce, hvm, hcl, st⟩
  · have hv : v = rv := by injection hv
    subst hv
    rw [h0] at hz hk
    obtain ⟨g1, g2⟩ := hH t T' e1 hz hk L hL
    obtain ⟨t2, a1, b1⟩ := kk T'.heap (locs ++ L) hh g1 g2 T' rfl X'
    exact ⟨t2, st t2 a1, b1⟩
  · rw [h0] at hz hk
    obtain ⟨g1, g2⟩ := hH t T' e1 hz hk L hL
    obtain ⟨t2, a1, b1⟩ := kx E ce q T'.heap (locs ++ L) hE g1 g2 (by rw [e1]; exact hce) hvm hcl T' rfl X'
    exact ⟨t2, st.trans a1, b1⟩
/-- behind a call that writes, and may throw -/
theorem kz_ {rv : (Nat → Nat) → (Nat → Int32) → Option Value} {po : (Nat → Nat) → (Nat → Int32) → Prop} {px : String → Prop} {w1 : (Nat → Nat) → (Nat → ClassId) → (Nat → Int32) → va_W} {t1 : (Nat → Nat) → (Nat → ClassId) → (Nat → Int32) → List (ClassId × FieldType)} {wc wr : va_W} {tys tr : List (ClassId × FieldType)}
    (hr : vx_Run p l e R s m args below meth c H locs cells slots mc ms (F0 m pc ls st0) rest (QG_ D rv po w1 t1 (va_A wc H.size) a) (XG_ D px w1 t1 (va_A wc H.size)) (va_A wc H.size))
    (hK : va_K D vwCl tys s) (hP : va_P D vwCl ws H) (hD : va_D A ws) (hS : va_S A s.heap H locs) (hA : ∀ q, s.heap.size ≤ q → A q)
    (isC isR isT : List Nat) (hC : isC.map (fun i => ws[i]?) = wc.map some) (hR : isR.map (fun i => ws[i]?) = wr.map some) (hn : va_nd isR = true) (hdis : ∀ i ∈ isR, i ∉ isC) (hT : isT.filterMap (fun i => tys[i]?) = tr)
    (kk : ∀ (q : Nat → Nat) (k : Nat → ClassId) (i : Nat → Int32) (H1 : Heap) (locs1 : List Loc), po q i → va_P D vwCl (wr ++ w1 q k i) H1 → va_D A (wr ++ w1 q k i) → va_K D vwCl (tr ++ t1 q k i) s → va_S A s.heap H1 locs1 →
      W p l e R s m args below meth c H1 locs1 (cells + mc) (slots + ms) Q (F0 m (pc + 3) ls ((rv q i).toList ++ rest)))
    (kx : ∀ (E : String) (ce : Cell) (q9 : Addr) (q : Nat → Nat) (k : Nat → ClassId) (i : Nat → Int32) (H1 : Heap) (locs1 : List Loc), px E → va_P D vwCl (wr ++ w1 q k i) H1 → va_D A (wr ++ w1 q k i) → va_K D vwCl (tr ++ t1 q k i) s → va_S A s.heap H1 locs1 → H1[q9]? = some ce → ce.vm = .none → s.vm.findClass E = some ce.cls →
      vx_W p l e R s m args below meth c H1 locs1 (cells + mc) (slots + ms) Q (F0 m pc ls rest) q9) : W p l e R s m args below meth c H locs cells slots Q (F0 m pc ls st0) := by
  intro T hT0 X
  have hFc := va_free (wc := wc) hD hS hA isC hC
  have hH : ∀ (t T' : State) (q : Nat → Nat) (k : Nat → ClassId) (i : Nat → Int32), T'.heap = t.heap → s.vm.Alike t.vm → H.size ≤ t.heap.size → (∀ q : Nat, q < H.size → ¬ va_A wc H.size q → t.heap[q]? = H[q]?) → WB_ D w1 t1 (va_A wc H.size) q k i t → ∀ (L : List Loc), (∀ q ∈ L, va_A wc H.size q.base) →
      va_P D vwCl (wr ++ w1 q k i) T'.heap ∧ va_D A (wr ++ w1 q k i) ∧ va_K D vwCl (tr ++ t1 q k i) s ∧ va_S A s.heap T'.heap (locs ++ L) := by
    intro t T' q k i e1 hvm hz hk hW L hL
    obtain ⟨hP1, hK1, hD1⟩ := hW
    have hj := va_join (wr := wr) (w1 := w1 q k i) hP hD isC isR hC hR hn hdis hk hFc hP1 hD1
    refine ⟨by rw [e1]; exact hj.1, hj.2, (hK.sub isT hT).app (va_K.moved hvm.symm hK1), Nat.le_trans hS.1 (by rw [e1]; exact hz), fun x h1 h2 => by rw [e1, hk x (Nat.lt_of_lt_of_le h1 hS.1) (fun z => h2 (hFc x z))]; exact hS.2.1 x h1 h2, fun x hx => ?_⟩
    rcases List.mem_append.mp hx with h | h
    · exact hS.2.2 x h
    · exact hFc _ (hL x h)
  rcases hr T hT0 X with ⟨v, st₀, t, T', L, h0, X', hL, e1, e2, ⟨⟨q, k, i, hv, hp, hW⟩, hz, hk⟩, st⟩ | ⟨q9, st₀, t, T', L, E, ce, h0, X', hL, e1, e2, ⟨hE, ⟨q, k, i, hW⟩, hz, hk⟩, hce, hvm9, hcl, st⟩
  · have hv : v = rv q i := by injection hv
    subst hv
    rw [h0] at hz hk
    have hvm : s.vm.Alike t.vm := by rw [← e2]; exact X'.warmed.alike
    obtain ⟨g1, g2, g3, g4⟩ := hH t T' q k i e1 hvm hz hk hW L hL
    obtain ⟨t2, a1, b1⟩ := kk q k i T'.heap (locs ++ L) hp g1 g2 g3 g4 T' rfl X'
    exact ⟨t2, st t2 a1, b1⟩
  · rw [h0] at hz hk
    have hvm : s.vm.Alike t.vm := by rw [← e2]; exact X'.warmed.alike
    obtain ⟨g1, g2, g3, g4⟩ := hH t T' q k i e1 hvm hz hk hW L hL
    obtain ⟨t2, a1, b1⟩ := kx E ce q9 q k i T'.heap (locs ++ L) hE g1 g2 g3 g4 (by rw [e1]; exact hce) hvm9 hcl T' rfl X'
    exact ⟨t2, st.trans a1, b1⟩
/-- a loop with fuel -/
theorem lpW {τ : Type} {st : List Value} (I : Nat → τ → Heap → List Loc → Array Slot → Nat → Nat → Prop)
    (h0 : ∀ (t : τ) (H : Heap) (locs : List Loc) (ls : Array Slot) (c9 s9 : Nat), ¬ I 0 t H locs ls c9 s9)
    (hs : ∀ k : Nat, (∀ (t : τ) (H : Heap) (locs : List Loc) (ls : Array Slot) (c9 s9 : Nat), I k t H locs ls c9 s9 → W p l e R s m args below meth c H locs c9 s9 Q (F0 m pc ls st)) → ∀ (t : τ) (H : Heap) (locs : List Loc) (ls : Array Slot) (c9 s9 : Nat), I (k + 1) t H locs ls c9 s9 → W p l e R s m args below meth c H locs c9 s9 Q (F0 m pc ls st))
    (n : Nat) (t : τ) (hI : I n t H locs ls cells slots) : W p l e R s m args below meth c H locs cells slots Q (F0 m pc ls st) := by
  have key : ∀ (n : Nat) (t : τ) (H : Heap) (locs : List Loc) (ls : Array Slot) (c9 s9 : Nat), I n t H locs ls c9 s9 → W p l e R s m args below meth c H locs c9 s9 Q (F0 m pc ls st) := by
    intro n
    induction n with
    | zero => intro t H locs ls c9 s9 h; exact absurd h (h0 t H locs ls c9 s9)
    | succ k ih => exact hs k ih
  exact key n t H locs ls cells slots hI
end KRR
theorem axI_r (x y : Int32) : ((axI x y).toInt = x.toInt ∧ y.toInt ≤ x.toInt) ∨ ((axI x y).toInt = y.toInt ∧ x.toInt < y.toInt) := by
  unfold axI
  by_cases h : x < y
  · rw [if_pos h]
    exact Or.inr ⟨rfl, Int32.lt_iff_toInt_lt.mp h⟩
  · rw [if_neg h]
    exact Or.inl ⟨rfl, Int.not_lt.mp (fun z => h (Int32.lt_iff_toInt_lt.mpr z))⟩
theorem inI_r (x y : Int32) : ((inI x y).toInt = x.toInt ∧ x.toInt ≤ y.toInt) ∨ ((inI x y).toInt = y.toInt ∧ y.toInt < x.toInt) := by
  unfold inI
  by_cases h : y < x
  · rw [if_pos h]
    exact Or.inr ⟨rfl, Int32.lt_iff_toInt_lt.mp h⟩
  · rw [if_neg h]
    exact Or.inl ⟨rfl, Int.not_lt.mp (fun z => h (Int32.lt_iff_toInt_lt.mpr z))⟩
theorem shr1 (a : Int32) : (a >>> (1 &&& 31)).toInt = a.toInt / 2 := by
  have e : (a >>> (1 &&& 31 : Int32)).toBitVec = a.toBitVec.sshiftRight 1 := rfl
  show (a >>> (1 &&& 31 : Int32)).toBitVec.toInt = a.toBitVec.toInt / 2
  rw [e, BitVec.toInt_sshiftRight, Int.shiftRight_eq_div_pow]
  rfl
/-! the ring of surveys -/
theorem t8_ {x : Int32} (h1 : 0 ≤ x.toInt) (h2 : x.toInt < 8) : x = 0 ∨ x = 1 ∨ x = 2 ∨ x = 3 ∨ x = 4 ∨ x = 5 ∨ x = 6 ∨ x = 7 := by
  have k : ∀ n : Nat, n < 2 ^ 31 → x.toInt = (n : Int) → x = nI n := fun n hn h => Int32.toInt_inj.mp (h.trans (nI_toInt hn).symm)
  rcases (show x.toInt = 0 ∨ x.toInt = 1 ∨ x.toInt = 2 ∨ x.toInt = 3 ∨ x.toInt = 4 ∨ x.toInt = 5 ∨ x.toInt = 6 ∨ x.toInt = 7 by omega) with h | h | h | h | h | h | h | h
  · exact Or.inl (k 0 (by decide) h)
  · exact Or.inr (Or.inl (k 1 (by decide) h))
  · exact Or.inr (Or.inr (Or.inl (k 2 (by decide) h)))
  · exact Or.inr (Or.inr (Or.inr (Or.inl (k 3 (by decide) h))))
  · exact Or.inr (Or.inr (Or.inr (Or.inr (Or.inl (k 4 (by decide) h)))))
  · exact Or.inr (Or.inr (Or.inr (Or.inr (Or.inr (Or.inl (k 5 (by decide) h))))))
  · exact Or.inr (Or.inr (Or.inr (Or.inr (Or.inr (Or.inr (Or.inl (k 6 (by decide) h)))))))
  · exact Or.inr (Or.inr (Or.inr (Or.inr (Or.inr (Or.inr (Or.inr (k 7 (by decide) h)))))))
theorem rm8 (x : Int32) (h1 : 0 ≤ x.toInt) (h2 : x.toInt < 16) : (rmI x 8).toInt = x.toInt % 8 := by
  have key : ∀ i : Fin 16, (rmI (nI i.val) 8).toInt = (i.val : Int) % 8 := by decide +kernel
  have e : x = nI x.toInt.toNat := Int32.toInt_inj.mp ((show x.toInt = ((x.toInt.toNat : Nat) : Int) by omega).trans (nI_toInt (by omega)).symm)
  have k := key ⟨x.toInt.toNat, by omega⟩
  rw [← e] at k
  rw [k]
  show ((x.toInt.toNat : Nat) : Int) % 8 = _
  omega
def RG_ (f : Nat → Nat) (g : Nat → Int32) : Prop := ∀ j : Nat, 64 ≤ f j ∧ f j ≤ 2000000 ∧ 0 ≤ (g j).toInt ∧ (g j).toInt ≤ f j ∧ (g j).toInt ≤ 1000000
theorem RG_up {f : Nat → Nat} {g : Nat → Int32} {k v : Nat} {w : Int32} (h : RG_ f g) (h1 : 64 ≤ v ∧ v ≤ 2000000 ∧ 0 ≤ w.toInt ∧ w.toInt ≤ v ∧ w.toInt ≤ 1000000) : RG_ (va_up f k v) (va_up g k w) := by
  intro j
  unfold va_up
  by_cases e : j = k
  · rw [if_pos e, if_pos e]
    exact h1
  · rw [if_neg e, if_neg e]
    exact h j
/-! texts, bytes, numbers -/
def PC9_ (f : Nat → Int32) : Prop := ∀ j : Nat, 0 ≤ (f j).toInt ∧ (f j).toInt < 10
theorem ci_r (x : Int32) : 0 ≤ (ci_ x).toInt ∧ (ci_ x).toInt < 65536 := by
  have h : (x.toUInt32 % 65536).toNat < 65536 := by
    rw [UInt32.toNat_mod]
    exact Nat.mod_lt _ (by decide)
  have e : (ci_ x).toInt = ((x.toUInt32 % 65536).toNat : Int) := by
    show (x.toUInt32 % 65536).toBitVec.toInt = _
    rw [BitVec.toInt_eq_toNat_bmod]
    exact Int.bmod_eq_of_le (m := 4294967296) (by omega) (by
      have h9 : (x.toUInt32 % 65536).toBitVec.toNat < 65536 := h
      omega)
  omega
theorem negI {x : Int32} (h : -2147483647 ≤ x.toInt) : (-x).toInt = -x.toInt := by
  have h1 := Int32.toInt_lt x
  rw [Int32.toInt_neg]
  exact bm_ (by omega) (by omega)
theorem dv100 {x : Int32} (h : x.toInt ≤ 0) : (x / 100).toInt = -(-x.toInt / 100) := by
  have h1 := Int32.le_toInt x
  have e : (100 : Int32).toInt = 100 := by decide +kernel
  rw [Int32.toInt_div, e]
  have k : x.toInt.tdiv 100 = -(-x.toInt / 100) := by
    have k1 : (-x.toInt).tdiv 100 = -(x.toInt.tdiv 100) := Int.neg_tdiv _ _
    have k2 : (-x.toInt).tdiv 100 = (-x.toInt) / 100 := Int.tdiv_eq_ediv_of_nonneg (by omega)
    omega
  rw [k]
  exact bm_ (by omega) (by omega)
theorem shr0_ (x : Int32) : x >>> ((0 : Int32) &&& 31) = x := sb_shr0 x
theorem shl0_ (x : Int32) : x <<< ((0 : Int32) &&& 31) = x := sb_shl0 x
theorem fx_fit (j : Nat) : fits .byte (.int (fx_ones j)) = true ∧ fits .byte (.int (fx_tens j)) = true :=
  ⟨by rw [← (fx_nar j).1]; exact n8_fit _, by rw [← (fx_nar j).2]; exact n8_fit _⟩
/-- what a refusal leaves: nothing, or a new one that is kept (with a cause) -/
def kvC (k a : Nat) (v : Value) : Value := match k with
  | 0 => v
  | 1 => .ref a
  | 2 => .ref a
  | _ => v
def rfC (k a : Nat) (r d : Int32) : va_W := match k with
  | 1 => [(a, .inr (10, [.int r, .int d, .null]))]
  | _ => []
def rfC2 (k a b : Nat) (r d r2 d2 : Int32) : va_W := match k with
  | 1 => [(a, .inr (10, [.int r, .int d, .ref b])), (b, .inr (10, [.int r2, .int d2, .null]))]
  | 2 => [(a, .inr (10, [.int r, .int d, .ref b])), (b, .inr (10, [.int r2, .int d2, .null]))]
  | _ => []
