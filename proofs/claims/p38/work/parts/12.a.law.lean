/-! THE LAW'S OWN METHODS: own cells ahead, the whole object behind -/
theorem fm_congr {α β : Type} {f g : α → Option β} : ∀ {l : List α}, (∀ x ∈ l, f x = g x) → l.filterMap f = l.filterMap g
  | [], _ => rfl
  | a :: l, h => by
    rw [List.filterMap_cons, List.filterMap_cons, h a List.mem_cons_self, fm_congr (fun x hx => h x (List.mem_cons_of_mem _ hx))]
def tlt_ (n : Nat) (T : List (ClassId × FieldType)) : List Nat := (List.range T.length).map (fun i => n + i)
theorem tlt_get {X T : List (ClassId × FieldType)} {n : Nat} (hn : X.length = n) : (tlt_ n T).filterMap (fun i => (X ++ T)[i]?) = T := by
  subst hn
  unfold tlt_
  rw [List.filterMap_map]
  have e : ∀ i ∈ List.range T.length, ((fun i => (X ++ T)[i]?) ∘ (fun i => X.length + i)) i = T[i]? := fun i _ => by
    show (X ++ T)[X.length + i]? = T[i]?
    rw [List.getElem?_append_right (Nat.le_add_right _ _), Nat.add_sub_cancel_left]
  rw [fm_congr e]
  have key : ∀ (L : List (ClassId × FieldType)), (List.range L.length).filterMap (fun i => L[i]?) = L := by
    intro L
    induction L with
    | nil => rfl
    | cons a L ih =>
      rw [List.length_cons, List.range_succ_eq_map, List.filterMap_cons]
      show a :: List.filterMap (fun i => (a :: L)[i]?) (List.map Nat.succ (List.range L.length)) = a :: L
      rw [List.filterMap_map]
      exact congrArg (a :: ·) ih
  exact key T
theorem rng_get {X T : va_W} : (List.range X.length).map (fun i => (X ++ T)[i]?) = X.map some := by
  apply List.ext_getElem (by simp)
  intro i h1 h2
  simp at h1 h2 ⊢
  rw [List.getElem?_append_left h2]
  exact List.getElem?_eq_getElem h2
theorem rng_nd (n : Nat) : va_nd (List.range n) = true := (va_nd_iff _).mpr List.nodup_range
theorem rng_dis {n : Nat} {T : va_W} : ∀ i ∈ List.range n, i ∉ tl_ n T := fun i hi z => Nat.lt_irrefl _ (Nat.lt_of_lt_of_le (List.mem_range.mp hi) (tl_ge z))
theorem rngT_get {Y T : List (ClassId × FieldType)} : (List.range Y.length).filterMap (fun i => (Y ++ T)[i]?) = Y := by
  have e : ∀ i ∈ List.range Y.length, (Y ++ T)[i]? = Y[i]? := fun i hi => List.getElem?_append_left (List.mem_range.mp hi)
  rw [fm_congr e]
  have h := tlt_get (X := []) (T := Y) (n := 0) rfl
  unfold tlt_ at h
  rw [List.filterMap_map] at h
  refine Eq.trans (fm_congr (fun i _ => ?_)) h
  show Y[i]? = ([] ++ Y)[0 + i]?
  rw [Nat.zero_add]
  rfl
theorem tl_ndT {n : Nat} {T : va_W} : va_nd (tl_ n T) = true := (va_nd_iff _).mpr tl_ndp
section LAWB
variable {p : Program} {l : Launch} {e : Env} {R : Room} {s : State} {m : MethodId} {args : Array Value} {below : List Frame} {meth : Method} {c : Code} {H : Heap} {locs : List Loc} {cells slots : Nat} {Q : State → Prop}
variable {pc : Nat} {ls : Array Slot} {rest st0 : List Value} {a : Array Value} {A : Nat → Prop} {mc ms : Nat} {D : va_G} {ad : Nat → Nat}
theorem lw_pre {X : va_W} {Y : List (ClassId × FieldType)} {b : BX} {av : List Value} (hF : FX_ ad A s s.heap) (hK : va_K D vwCl (Y ++ BWT b) s) (hP : va_P D vwCl (X ++ BWW ad b) H) (hD : va_D A (X ++ BWW ad b)) (hS : va_S A s.heap H locs) (hA : ∀ q, s.heap.size ≤ q → A q) :
    ∀ U : State, U.heap = H → s.WarmedH U.vm → PC_ D ad (BWW ad b) (BWT b) H.size av av.toArray U :=
  PC_.pre hF hK hP hD hS hA (tl_ X.length (BWW ad b)) (tlt_ Y.length (BWT b)) (tl_get rfl) tl_ndT (tlt_get rfl)
theorem lw_ret {rv : BX → Option Value} {po : BX → Prop} {X : va_W} {Y : List (ClassId × FieldType)} {ov : Option Value} (b : BX) (hP : va_P D vwCl (X ++ BWW ad b) H) (hD : va_D A (X ++ BWW ad b)) (hK : va_K D vwCl (Y ++ BWT b) s) (hS : va_S A s.heap H locs) (hv : ov = rv b) (hp : po b) :
    ∀ t : State, t.heap = H → s.WarmedH t.vm → QB_ D rv po (BWW ad) BWT A a s (.returned ov) t :=
  QB_.mk b (tl_ X.length (BWW ad b)) (tlt_ Y.length (BWT b)) hP hD hK hS hv hp (tl_get rfl) tl_ndT (tlt_get rfl)
theorem kwb_ {rv : BX → Option Value} {po : BX → Prop} (X : va_W) (Y : List (ClassId × FieldType)) {b : BX}
    (hr : va_Run p l e R s m args below meth c H locs cells slots mc ms (F0 m pc ls st0) rest (QB_ D rv po (BWW ad) BWT (va_A (BWW ad b) H.size) a) (va_A (BWW ad b) H.size))
    (hK : va_K D vwCl (Y ++ BWT b) s) (hP : va_P D vwCl (X ++ BWW ad b) H) (hD : va_D A (X ++ BWW ad b)) (hS : va_S A s.heap H locs) (hA : ∀ q, s.heap.size ≤ q → A q)
    (kk : ∀ (b : BX) (H1 : Heap) (locs1 : List Loc), po b → va_P D vwCl (X ++ BWW ad b) H1 → va_D A (X ++ BWW ad b) → va_K D vwCl (Y ++ BWT b) s → va_S A s.heap H1 locs1 →
      W p l e R s m args below meth c H1 locs1 (cells + mc) (slots + ms) Q (F0 m (pc + 3) ls ((rv b).toList ++ rest))) : W p l e R s m args below meth c H locs cells slots Q (F0 m pc ls st0) :=
  kb_ hr hK hP hD hS hA (tl_ X.length (BWW ad b)) (List.range X.length) (List.range Y.length) (tl_get rfl) rng_get (rng_nd _) rng_dis rngT_get kk
theorem kzwb_ {rv : BX → Option Value} {po : BX → Prop} {px : String → BX → Prop} (X : va_W) (Y : List (ClassId × FieldType)) {b : BX}
    (hr : vx_Run p l e R s m args below meth c H locs cells slots mc ms (F0 m pc ls st0) rest (QB_ D rv po (BWW ad) BWT (va_A (BWW ad b) H.size) a) (XB_ D px (BWW ad) BWT (va_A (BWW ad b) H.size)) (va_A (BWW ad b) H.size))
    (hK : va_K D vwCl (Y ++ BWT b) s) (hP : va_P D vwCl (X ++ BWW ad b) H) (hD : va_D A (X ++ BWW ad b)) (hS : va_S A s.heap H locs) (hA : ∀ q, s.heap.size ≤ q → A q)
    (kk : ∀ (b : BX) (H1 : Heap) (locs1 : List Loc), po b → va_P D vwCl (X ++ BWW ad b) H1 → va_D A (X ++ BWW ad b) → va_K D vwCl (Y ++ BWT b) s → va_S A s.heap H1 locs1 →
      W p l e R s m args below meth c H1 locs1 (cells + mc) (slots + ms) Q (F0 m (pc + 3) ls ((rv b).toList ++ rest)))
    (kx : ∀ (E : String) (ce : Cell) (q9 : Addr) (b : BX) (H1 : Heap) (locs1 : List Loc), px E b → va_P D vwCl (X ++ BWW ad b) H1 → va_D A (X ++ BWW ad b) → va_K D vwCl (Y ++ BWT b) s → va_S A s.heap H1 locs1 → H1[q9]? = some ce → ce.vm = .none → s.vm.findClass E = some ce.cls →
      vx_W p l e R s m args below meth c H1 locs1 (cells + mc) (slots + ms) Q (F0 m pc ls rest) q9) : W p l e R s m args below meth c H locs cells slots Q (F0 m pc ls st0) :=
  kzb_ hr hK hP hD hS hA (tl_ X.length (BWW ad b)) (List.range X.length) (List.range Y.length) (tl_get rfl) rng_get (rng_nd _) rng_dis rngT_get kk kx
end LAWB
/-- a result with what was made ahead of it -/
def adc {α β : Type} (a b : Nat) (r : α × β × Nat × Nat) : α × β × Nat × Nat := (r.1, r.2.1, a + r.2.2.1, b + r.2.2.2)
theorem adc_adc {α β : Type} (a b c d : Nat) (r : α × β × Nat × Nat) : adc a b (adc c d r) = adc (a + c) (b + d) r := by
  unfold adc
  simp only [Nat.add_assoc]
theorem adc_0 {α β : Type} (r : α × β × Nat × Nat) : adc 0 0 r = r := by
  obtain ⟨r1, r2, r3, r4⟩ := r
  unfold adc
  simp only [Nat.zero_add]
theorem adc_r1 {α β : Type} {F r : α × β × Nat × Nat} {a b c d : Nat} (h : F = adc a b (adc c d r)) : a + c ≤ F.2.2.1 := by
  rw [h]
  exact Nat.add_le_add_left (Nat.le_add_right _ _) _
theorem adc_s1 {α β : Type} {F r : α × β × Nat × Nat} {a b c d : Nat} (h : F = adc a b (adc c d r)) : b + d ≤ F.2.2.2 := by
  rw [h]
  exact Nat.add_le_add_left (Nat.le_add_right _ _) _
theorem adc_r0 {α β : Type} {F r : α × β × Nat × Nat} {a b : Nat} (h : F = adc a b r) : a + 0 ≤ F.2.2.1 := by
  rw [h]
  exact Nat.add_le_add_left (Nat.zero_le _) _
theorem adc_s0 {α β : Type} {F r : α × β × Nat × Nat} {a b : Nat} (h : F = adc a b r) : b + 0 ≤ F.2.2.2 := by
  rw [h]
  exact Nat.add_le_add_left (Nat.zero_le _) _
/-- a call with much on the stack (up to 16 words) -/
theorem lw_runSW {p : Program} {l : Launch} {e : Env} {R : Room} {s : State} {m : MethodId} {args : Array Value} {below : List Frame} {meth : Method} {c : Code} {H : Heap} {locs : List Loc} {cells slots : Nat} {y : MethodName} {bytes cc : ByteArray} {maxL nL mc ms n index : Nat} {ret : Option FieldType} {hh : List (Nat × Nat × Nat × Nat)} {ws : List Cond} {rm : Room} {Pc : Array Value → State → Prop} {Qc : Array Value → State → Outcome → State → Prop} {free : Addr → Prop} {Ts : List Cond} {own : String} {As rest : List Value} {g : JFrame}
    (S : CallFix p m c cc nL s args Ts own) (hM : Met l y ws rm Pc Qc mc ms free) (cw : vx_CSW R s args own index y bytes maxL ret hh ws rm mc ms n) (hlo16 : 16 + (maxL + 11) + rm.locals ≤ R.locals) (hp : PreS s H Pc As)
    (hg : g.method = m) (hn : As.length = n) (hsize : g.locals.size = nL) (hstack : g.stack = As.reverse ++ rest) (hW : 2 * g.monitorRoom + (rest.map fun v => v.category).sum ≤ 16) (hdg : decode cc g.pc = .ok (.invokestatic index, 3)) (hf : cells + mc ≤ R.cells ∧ slots + ms ≤ R.slots) :
    va_Run p l e R s m args below meth c H locs cells slots mc ms g rest (Qc As.toArray) (free) := by
  obtain ⟨⟨hrc, hrs, hfr, hlo, hws, hcw⟩, hcode, hini, hy, hlen, hl, hstt⟩ := cw
  have hK : Back l R p e below s args y 3 16 (PreOf R mc ms Pc) (PostOf Qc mc ms free) := va_backW (hh := hh) (bytes := bytes) (maxL := maxL) (ret := ret) hM hp.1 hrc hrs hfr hlo16 hws hcw (fun a' U hW => word_at hW (Or.inl (by first | rfl | simp [Cond.onTables, Cond.keeps, Cond.steady])) hini)
  obtain ⟨hx, hb, hml, ho, _⟩ := S
  intro T hT X
  obtain ⟨v, vm₁, ⟨U', l2, c2, s2⟩, hW₁, X', ⟨g', mk, t, L, e1, e2, hq, h1, hL, h2, h3⟩, st⟩ := vx_callSW X hx (hh := hh) (bytes := bytes) (maxL := maxL) (ret := ret) ho hl hstt hini hcode hy hK hg (hsize.trans hml.symm) (argsL := As) (rest := rest) (fun sig h => hn.trans (hlen sig h)) hstack hW (by rw [hb]; exact hdg)
    (fun vm₁ hW₁ => ⟨hf.1, hf.2, hp.2 (T.setVm vm₁) hT hW₁⟩)
  dsimp only [Pt.U, Pt.locs, Pt.cells, Pt.slots] at X' e1 e2 h1 h2 h3 st
  subst h1; subst h2; subst h3
  exact ⟨v, (T.setVm vm₁).calling g' mk As.toArray, t, U', L, hT, X', hL, e1, e2, hq, st⟩
theorem lw_room16 {m : MethodId} {pc : Nat} {ls : Array Slot} {rest : List Value} {st : List Value} (h : (st.map fun v => v.category).sum ≤ 16) : 2 * (F0 m pc ls rest).monitorRoom + (st.map fun v => v.category).sum ≤ 16 := by
  show 2 * 0 + _ ≤ 16
  omega
/-- ldc_w of a constant String -/
theorem lw_ldcwS {p : Program} {l : Launch} {e : Env} {R : Room} {s : State} {m : MethodId} {args : Array Value} {below : List Frame} {meth : Method} {c : Code} {H : Heap} {locs : List Loc} {cells slots : Nat} {Q : State → Prop} {cc : ByteArray} {pc : Nat} {ls : Array Slot} {rest : List Value}
    (hexec : p.tables.exec = Jvm.exec) (hb : c.code = cc) {own tx : String} {index q : Nat} (hown : s.vm.findClass own = some m.cls) (hZ : vk_R own index tx q s) (hdg : decode cc pc = .ok (.ldc_w index, 3))
    (k : W p l e R s m args below meth c H locs cells slots Q (F0 m (pc + 3) ls (.ref q :: rest))) : W p l e R s m args below meth c H locs cells slots Q (F0 m pc ls rest) := by
  intro T hT X
  obtain ⟨t, a1, b1⟩ := k T hT X
  refine ⟨t, ?_, b1⟩
  have hz1 : (Cond.stringRef own index tx).before args s = true := hZ.1
  have hz2 : (Term.string own index).eval args s none [] s = some (.ref q) := hZ.2
  obtain ⟨k0, cf, i, a', hk, hcf, hcp, _, hr, hev'⟩ := Cond.stringRef_spec hown hz1
  cases hz2.symm.trans hev'
  obtain ⟨k', hk', he⟩ := X.warmed.alike.2.2 _ _ hk
  have hr' : k'.resolved[index]? = some (some (.string q)) := by
    rcases X.warmed.entry hk hk' index with h | ⟨h, _⟩
    · rw [h]; exact hr
    · rw [hr] at h; cases h
  have hdg' : decode c.code pc = .ok (.ldc_w index, 3) := by rw [hb]; exact hdg
  jvm_step X.here [hexec, hdg', ldc_w.wp_string (e := e) (s := T) (f := F0 m pc ls rest) X.here.top hk' (by rw [he]; exact hcf) hcp hr']
  exact a1
theorem rmI_t (a b : Int32) (h : 0 < b.toInt) : (rmI a b).toInt = a.toInt.tmod b.toInt := by
  unfold rmI
  have h1 := Int.tmod_lt_of_pos a.toInt h
  have h2 := Int.lt_tmod_of_pos a.toInt h
  have h3 := Int32.toInt_lt b
  have e : a.toInt.tmod b.toInt = a.toInt - b.toInt * a.toInt.tdiv b.toInt := Int.tmod_def _ _
  rw [Int32.toInt_sub, Int32.toInt_mul, Int32.toInt_div]
  simp only [Int.sub_bmod_bmod, Int.bmod_mul_bmod]
  rw [Int.mul_comm (a.toInt.tdiv b.toInt), ← e]
  exact Int.bmod_eq_of_le (by omega) (by omega)
theorem some_r (a b : Int32) (h : 0 < b.toInt) : 0 ≤ (if 0 ≤ rmI a b then rmI a b else rmI a b + b).toInt ∧ (if 0 ≤ rmI a b then rmI a b else rmI a b + b).toInt < b.toInt := by
  have h0 := rmI_t a b h
  have h1 := Int.tmod_lt_of_pos a.toInt h
  have h2 := Int.lt_tmod_of_pos a.toInt h
  have h3 := Int32.toInt_lt b
  have e0 : (0 : Int32).toInt = 0 := by decide
  by_cases c : 0 ≤ rmI a b
  · rw [if_pos c]
    have y := Int32.le_iff_toInt_le.mp c
    omega
  · rw [if_neg c]
    have y : (rmI a b).toInt < (0 : Int32).toInt := Int.not_le.mp (fun z => c (Int32.le_iff_toInt_le.mpr z))
    have q : (rmI a b + b).toInt = (rmI a b).toInt + b.toInt := by
      rw [Int32.toInt_add]
      exact Int.bmod_eq_of_le (by omega) (by omega)
    omega
theorem all_get {X : va_W} : (List.range X.length).map (fun i => X[i]?) = X.map some := by
  have h := rng_get (X := X) (T := [])
  rwa [List.append_nil] at h
theorem all_getT {Y : List (ClassId × FieldType)} : (List.range Y.length).filterMap (fun i => Y[i]?) = Y := by
  have h := rngT_get (Y := Y) (T := [])
  rwa [List.append_nil] at h
theorem lw_retX {s : State} {H : Heap} {locs : List Loc} {a : Array Value} {A : Nat → Prop} {D : va_G} {ad : Nat → Nat} {rv : BX → Option Value} {po : BX → Prop} {X : va_W} {Y : List (ClassId × FieldType)} {ov : Option Value} (b : BX) (hP : va_P D vwCl (X ++ BWW ad b) H) (hD : va_D A (X ++ BWW ad b)) (hK : va_K D vwCl (Y ++ BWT b) s) (hS : va_S A s.heap H locs) (hv : ov = rv b) (hp : po b) :
    ∀ t : State, t.heap = H → s.WarmedH t.vm → QB_ D rv po (fun b => X ++ BWW ad b) (fun b => Y ++ BWT b) A a s (.returned ov) t :=
  QB_.mk b (List.range (X ++ BWW ad b).length) (List.range (Y ++ BWT b).length) hP hD hK hS hv hp all_get (rng_nd _) all_getT
