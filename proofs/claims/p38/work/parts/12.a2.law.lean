/-! own things of the law: texts -/
/-- the bytes of the texts that stand still -/
def cb_ (k : Nat) (j : Nat) : Int32 := (fx_byt.getD k []).getD j 0
theorem cb_fit (k : Nat) : sb_Fit (cb_ k) := by
  intro j
  have key : ∀ l ∈ fx_byt, ∀ x ∈ l, fits .byte (.int x) = true := by decide +kernel
  have h0 : fits .byte (.int (0 : Int32)) = true := by decide +kernel
  show fits .byte (.int ((fx_byt.getD k []).getD j 0)) = true
  rw [List.getD_eq_getElem?_getD, List.getD_eq_getElem?_getD]
  cases e : fx_byt[k]? with
  | none => exact h0
  | some l =>
    show fits .byte (.int ((l[j]?).getD 0)) = true
    cases e2 : l[j]? with
    | none => exact h0
    | some x => exact key l (List.mem_of_getElem? e) x (List.mem_of_getElem? e2)
theorem tlt_C {X T C : List (ClassId × FieldType)} {n : Nat} (is : List Nat) (h : is.filterMap (fun i => (X ++ T)[i]?) = C) (hn : X.length = n) : (is ++ tlt_ n T).filterMap (fun i => (X ++ T)[i]?) = C ++ T := by
  rw [List.filterMap_append, h, tlt_get hn]
theorem va_K_swap {D : va_G} {cl : List vw_C} {a b c : List (ClassId × FieldType)} {s : State} (h : va_K D cl ((a ++ b) ++ c) s) : va_K D cl ((a ++ c) ++ b) s := by
  refine ⟨h.1, fun k q hk => ?_⟩
  have hm := List.mem_of_getElem? hk
  have hm2 : q ∈ (a ++ b) ++ c := by
    rcases List.mem_append.mp hm with y | y
    · rcases List.mem_append.mp y with z | z
      · exact List.mem_append.mpr (Or.inl (List.mem_append.mpr (Or.inl z)))
      · exact List.mem_append.mpr (Or.inr z)
    · exact List.mem_append.mpr (Or.inl (List.mem_append.mpr (Or.inr y)))
  obtain ⟨i, hi⟩ := List.mem_iff_getElem?.mp hm2
  exact h.2 i q hi
section LAWC
variable {p : Program} {l : Launch} {e : Env} {R : Room} {s : State} {m : MethodId} {args : Array Value} {below : List Frame} {meth : Method} {c : Code} {H : Heap} {locs : List Loc} {cells slots : Nat} {Q : State → Prop}
variable {pc : Nat} {ls : Array Slot} {rest st0 : List Value} {a : Array Value} {A : Nat → Prop} {mc ms : Nat} {D : va_G} {ad : Nat → Nat}
theorem lw_preW {WW : BX → va_W} {WT : BX → List (ClassId × FieldType)} {X : va_W} {Y : List (ClassId × FieldType)} {b : BX} {av : List Value} (hF : FX_ ad A s s.heap) (hK : va_K D vwCl (Y ++ WT b) s) (hP : va_P D vwCl (X ++ WW b) H) (hD : va_D A (X ++ WW b)) (hS : va_S A s.heap H locs) (hA : ∀ q, s.heap.size ≤ q → A q) :
    ∀ U : State, U.heap = H → s.WarmedH U.vm → PC_ D ad (WW b) (WT b) H.size av av.toArray U :=
  PC_.pre hF hK hP hD hS hA (tl_ X.length (WW b)) (tlt_ Y.length (WT b)) (tl_get rfl) tl_ndT (tlt_get rfl)
theorem kwbW_ {WW : BX → va_W} {WT : BX → List (ClassId × FieldType)} {rv : BX → Option Value} {po : BX → Prop} (X : va_W) (Y : List (ClassId × FieldType)) {b : BX}
    (hr : va_Run p l e R s m args below meth c H locs cells slots mc ms (F0 m pc ls st0) rest (QB_ D rv po WW WT (va_A (WW b) H.size) a) (va_A (WW b) H.size))
    (hK : va_K D vwCl (Y ++ WT b) s) (hP : va_P D vwCl (X ++ WW b) H) (hD : va_D A (X ++ WW b)) (hS : va_S A s.heap H locs) (hA : ∀ q, s.heap.size ≤ q → A q)
    (kk : ∀ (b : BX) (H1 : Heap) (locs1 : List Loc), po b → va_P D vwCl (X ++ WW b) H1 → va_D A (X ++ WW b) → va_K D vwCl (Y ++ WT b) s → va_S A s.heap H1 locs1 →
      W p l e R s m args below meth c H1 locs1 (cells + mc) (slots + ms) Q (F0 m (pc + 3) ls ((rv b).toList ++ rest))) : W p l e R s m args below meth c H locs cells slots Q (F0 m pc ls st0) :=
  kb_ hr hK hP hD hS hA (tl_ X.length (WW b)) (List.range X.length) (List.range Y.length) (tl_get rfl) rng_get (rng_nd _) rng_dis rngT_get kk
theorem kcopyt_ {cc : ByteArray} (hexec : p.tables.exec = Jvm.exec) (hb : c.code = cc) (hml : c.maxLocals = ls.size) {own : String} {index : Nat} (hown : s.vm.findClass own = some m.cls) (hlink : (Cond.methodLink own index arraycopyName).before args s = true) (hnat : (Cond.native arraycopyName).before args s = true) (hstat : (Cond.static arraycopyName).before args s = true) (hini : (Cond.initialized "java/lang/System").before args s = true)
    {cl : List vw_C} {tys : List (ClassId × FieldType)} {ws : va_W} {a : Nat} (hK : va_K D cl tys s) (hP : va_P D cl ws H) (hD : va_D A ws) (hS : va_S A s.heap H locs) {b0 n0 : Nat} {f g9 : Nat → Int32} (hX : va_T .byte b0 n0 (fun j => .int (f j)) A s s.heap) (q1 t1 : Nat) {c1 : ClassId} {n1 : Nat} {g : Nat → Int32} (ha1 : ws[q1]? = some (a, .inl (c1, n1, .inl g))) (ht1 : tys[t1]? = some (c1, .byte))
    {sp dp n : Int32} (h1 : ¬ sp < 0) (h2 : ¬ dp < 0) (h3 : ¬ n < 0) (h4 : sp.toNatClampNeg + n.toNatClampNeg ≤ n0) (h5 : dp.toNatClampNeg + n.toNatClampNeg ≤ n1) (hfit : ∀ i : Nat, i < n.toNatClampNeg → fits .byte (.int (f (sp.toNatClampNeg + i))) = true)
    (hg : va_cpy f g sp.toNatClampNeg dp.toNatClampNeg n.toNatClampNeg = g9) (hframes : 1 ≤ R.frames) (hlocals : (rest.map fun v => v.category).sum + (nativeFrameWords "java/lang/System" "arraycopy" 5 + 11) ≤ R.locals) (hdg : decode cc pc = .ok (.invokestatic index, 3))
    (kk : ∀ (H1 : Heap) (locs1 : List Loc), va_P D cl (ws.set q1 (a, .inl (c1, n1, .inl g9))) H1 → va_D A (ws.set q1 (a, .inl (c1, n1, .inl g9))) → va_S A s.heap H1 locs1 → W p l e R s m args below meth c H1 locs1 cells slots Q (F0 m (pc + 3) ls rest)) : W p l e R s m args below meth c H locs cells slots Q (F0 m pc ls (.int n :: .int dp :: .ref a :: .int sp :: .ref b0 :: rest)) := by
  subst hg
  exact vk_copyt hexec hb hml hown hlink hnat hstat hini hK hP hD hS hX q1 t1 ha1 ht1 h1 h2 h3 h4 h5 hfit hframes hlocals hdg kk
end LAWC
/-! the script stands still -/
def PRX_ (ad : Nat → Nat) (sb L : Nat) (xs : Nat → Int32) (sz : Nat) (av : List Value) : Array Value → State → Prop :=
  va_Pc av (fun U => U.heap.size = sz ∧ FX_ ad (va_A [] sz) U U.heap ∧ va_X sb L xs U U.heap ∧ sb < sz)
theorem PRX_.blind {ad : Nat → Nat} {sb L : Nat} {xs : Nat → Int32} {sz : Nat} {av : List Value} : FrameBlind (PRX_ ad sb L xs sz av) :=
  fun a U g mk q => by
    obtain ⟨q0, q1, q2, q3, q4⟩ := q
    exact ⟨q0, q1, FX_.same (u := U) (U := U.calling g mk a) rfl q2, va_X.moved (u := U) (U := U.calling g mk a) (Vm.Alike.refl U.vm) q3, q4⟩
theorem PRX_.pre {ad : Nat → Nat} {A : Nat → Prop} {s : State} {H : Heap} {locs : List Loc} {av : List Value} {sb L : Nat} {xs : Nat → Int32} (hF : FX_ ad A s s.heap) (hX : va_X sb L xs s s.heap) (hbl : sb < s.heap.size) (hbA : ¬ A sb) (hS : va_S A s.heap H locs) (hA : ∀ q, s.heap.size ≤ q → A q) :
    ∀ U : State, U.heap = H → s.WarmedH U.vm → PRX_ ad sb L xs H.size av av.toArray U := by
  intro U hU hW
  subst hU
  exact ⟨rfl, rfl, FX_.warm hW hF hS.2.1 (fun q hq => hA q (Nat.le_trans hS.1 (va_A0 hq))), (hX.kept (hS.2.1 sb hbl hbA)).moved hW.alike, Nat.lt_of_lt_of_le hbl hS.1⟩
def PCX_ (D : va_G) (ad : Nat → Nat) (ws : va_W) (tys : List (ClassId × FieldType)) (sb L : Nat) (xs : Nat → Int32) (sz : Nat) (av : List Value) : Array Value → State → Prop := fun v U =>
  PC_ D ad ws tys sz av v U ∧ va_X sb L xs U U.heap ∧ sb < sz ∧ ¬ va_A ws sz sb
theorem PCX_.blind {D : va_G} {ad : Nat → Nat} {ws : va_W} {tys : List (ClassId × FieldType)} {sb L : Nat} {xs : Nat → Int32} {sz : Nat} {av : List Value} : FrameBlind (PCX_ D ad ws tys sb L xs sz av) :=
  fun a U g mk q => by
    obtain ⟨q0, q1, q2⟩ := q
    exact ⟨PC_.blind a U g mk q0, va_X.moved (u := U) (U := U.calling g mk a) (Vm.Alike.refl U.vm) q1, q2⟩
theorem lw_preX {D : va_G} {ad : Nat → Nat} {A : Nat → Prop} {s : State} {H : Heap} {locs : List Loc} {X : va_W} {Y : List (ClassId × FieldType)} {b : BX} {av : List Value} {sb L : Nat} {xs : Nat → Int32} (hF : FX_ ad A s s.heap) (hX : va_X sb L xs s s.heap) (hbl : sb < s.heap.size) (hbA : ¬ A sb) (hK : va_K D vwCl (Y ++ BWT b) s) (hP : va_P D vwCl (X ++ BWW ad b) H) (hD : va_D A (X ++ BWW ad b)) (hS : va_S A s.heap H locs) (hA : ∀ q, s.heap.size ≤ q → A q) :
    ∀ U : State, U.heap = H → s.WarmedH U.vm → PCX_ D ad (BWW ad b) (BWT b) sb L xs H.size av av.toArray U := fun U hU hW =>
  ⟨lw_pre hF hK hP hD hS hA U hU hW, by subst hU; exact (hX.kept (hS.2.1 sb hbl hbA)).moved hW.alike, Nat.lt_of_lt_of_le hbl hS.1,
   fun z => hbA (va_free hD hS hA (tl_ X.length (BWW ad b)) (tl_get rfl) sb z)⟩
def F_L_at (ar1 : Nat → Int32) (len1 : Nat) (a2 : Int32) : Int32 := (if (nI len1) ≤ a2 then 0 else (ar1 (ix a2)))
set_option maxHeartbeats 4000000 in
set_option maxRecDepth 100000 in
theorem c_L_at (l : Launch) (hl0 : l.stackTraces = false) (ad : Nat → Nat) (sz : Nat) (sb len1 : Nat) (ar1 : Nat → Int32) (a2 : Int32) (hy0 : len1 ≤ 260) (hy1 : 0 ≤ a2.toInt) : Met l yL_at wsL_at ({ frames := 0, cells := 0, slots := 0, locals := 0 }) (PRX_ ad sb len1 ar1 sz [.ref sb, .int a2]) (QR_ (.int (F_L_at ar1 len1 a2)) (va_A [] sz)) 0 0 (va_A [] sz) := by
  refine Met.ofW (cc := cL_at) (maxL := 2) (ret := (some .int)) (by decide) rfl ?_
  intro p e s m args below meth c s₁ B hml hv
  obtain ⟨rfl, hsz, hF, hX, hbl⟩ := hv
  have hx := B.exec
  have hb := B.bytes
  have hr := B.returns
  have hts := atoms_spec (ws := wsL_at) B.pre
  have hown : s.vm.findClass RL = some m.cls := findClass_of_methodNamed B.named
  have hlocks := B.notSynchronized
  subst hsz
  have hbA : ¬ va_A [] s.heap.size sb := fun z => absurd (va_A0 z) (Nat.not_le.mpr hbl)
  generalize hAe : va_A [] s.heap.size = A at hF hbA ⊢
  obtain ⟨H, hHe⟩ : ∃ H : Heap, H = s.heap := ⟨_, rfl⟩
  have hS : va_S A s.heap H [] := by rw [hHe]; exact va_S.rf
  rw [← hHe]
  have hl := lv_entry [.ref sb, .int a2] (n := 2) (Nat.le_of_ble_eq_true rfl)
  rw [lg_entry_eq]
  generalize (lg_sl [.ref sb, .int a2] ++ List.replicate (2 - (lg_sl [.ref sb, .int a2]).length) Slot.unset).toArray = ls at hl ⊢
  have hl : lv_has ls 2 [(0, .ref sb), (1, .int a2)] := hl
  have hM : F_L_at ar1 len1 a2 = (if (nI len1) ≤ a2 then 0 else (ar1 (ix a2))) := rfl
  refine lv_iload_n hx hb dL_at_0 rfl (lv_at hl 1 rfl) ?_
  refine lv_aload_n hx hb dL_at_1 rfl (lv_at hl 0 rfl) ?_
  refine va_slen hx hb hX hbl hbA hS dL_at_2 ?_
  refine kt_ (v := (nI len1)) rfl ?_
  refine lv_icmp_ge (tgt := 12) hx hb dL_at_3 (by decide) (fun c_1 => ?_) (fun c_1 => ?_)
  · rw [if_pos c_1] at hM
    refine lv_iconst (v := 0) hx hb dL_at_12 (by decide) ?_
    refine W.widen (k := 0) (n := 0) (Nat.le_of_ble_eq_true rfl) (Nat.le_of_ble_eq_true rfl) ?_
    exact W.iret (v := 0) hx hb hr (QR_.mk hS (by rw [hM])) hS.2.2 dL_at_13
  · rw [if_neg c_1] at hM
    refine lv_aload_n hx hb dL_at_6 rfl (lv_at hl 0 rfl) ?_
    refine lv_iload_n hx hb dL_at_7 rfl (lv_at hl 1 rfl) ?_
    refine va_sld hx hb hX hbl hbA hS (vinI (by have y0 := f_nle c_1; have z0 := hy0; have z1 := hy1; have b4 := Int32.toInt_lt (a2); have d4 := Int32.le_toInt (a2); have w0 := nI_toInt (n := len1) (by omega); omega) (by have y0 := f_nle c_1; have z0 := hy0; have z1 := hy1; have b4 := Int32.toInt_lt (a2); have d4 := Int32.le_toInt (a2); have w0 := nI_toInt (n := len1) (by omega); omega)) dL_at_8 ?_
    refine kt_ (v := (ar1 (ix a2))) rfl ?_
    refine lv_goto (tgt := 13) hx hb dL_at_9 (by decide) ?_
    refine W.widen (k := 0) (n := 0) (Nat.le_of_ble_eq_true rfl) (Nat.le_of_ble_eq_true rfl) ?_
    exact W.iret (v := (ar1 (ix a2))) hx hb hr (QR_.mk hS (by rw [hM])) hS.2.2 dL_at_13
