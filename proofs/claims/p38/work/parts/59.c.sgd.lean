/-! FROM GOOD SURVEYS TO QUERIES -/
def GSS (r d T : Nat) (P : List PG) (S : SV) : Prop := GS r d T P S.1 S.2.1 S.2.2.1 S.2.2.2.1 S.2.2.2.2.2.1 S.2.2.2.2.2.2.2.1 S.2.2.2.2.2.2.2.2.1
theorem GSS.sgd {r d T : Nat} {P : List PG} {S : SV} (h : GSS r d T P S) (hr : r ≤ 32) (hd : d ≤ 100000) (hT : T < 500000) : SGD P S := by
  obtain ⟨M, lt, N, f, g1, g2, g3, g4, g5, g6, g7, g8, g10, g11, g12, goz⟩ := h
  exact ⟨M, lt, N, g1, g2, g3, g4, g5, g6, g7, BB34 ▸ lj_LB g3 g5 g10 g11 hr hd g12 hT⟩
theorem GSS.app {r d T : Nat} {P : List PG} {S : SV} (h : GSS r d T P S) (Q : List PG) (hl : (P ++ Q).length ≤ 2000000) : GSS r d T (P ++ Q) S := by
  obtain ⟨M, lt, N, f, g1, g2⟩ := h
  rw [List.length_append] at hl
  exact ⟨M, lt, N, f, SIM.app g1 Q hl, g2⟩
theorem GSS.mono {r d T r' d' T' : Nat} {P : List PG} {S : SV} (h : GSS r d T P S) (hr : r ≤ r') (hd : d ≤ d') (hT : T ≤ T') : GSS r' d' T' P S := by
  obtain ⟨M, lt, N, f, g1, g2, g3, g4, g5, g6, g7, g8, g10, g11, g12, goz⟩ := h
  exact ⟨M, lt, N, f, g1, g2, g3, g4, g5, g6, g7, g8, LJ.mono g10 (fun _ _ => Nat.le_refl _) hd, fun X => by have := g11 X; omega, by omega, goz⟩
theorem GSS.cn {r d T : Nat} {P : List PG} {S : SV} (h : GSS r d T P S) {R : Nat} (hr : r ≤ R) (hd : d ≤ 100000) (hT : T < 500000) : 0 ≤ S.2.2.2.2.2.1.toInt ∧ S.2.2.2.2.2.1.toInt ≤ BR R := by
  obtain ⟨M, lt, N, f, g1, g2, g3, g4, g5, g6, g7, g8, g10, g11, g12, goz⟩ := h
  have z := LB.len (lj_LB (ds := S.1) g3 g5 g10 g11 hr hd g12 hT)
  have w := g1.2.2.2.1
  omega
theorem SGD.app {P : List PG} {S : SV} (h : SGD P S) (Q : List PG) (hl : P.length + Q.length ≤ 2000000) : SGD (P ++ Q) S := by
  obtain ⟨M, lt, N, h1, h2⟩ := h
  exact ⟨M, lt, N, SIM.app h1 Q hl, h2⟩
theorem EQN.symm {S T : SV} (h : EQN S T) : EQN T S := by
  obtain ⟨h1, h2, h3, h4, h5, h6⟩ := h
  exact ⟨h1.symm, h2.symm, h3.symm, fun i hi => (h4 i (by rw [h5]; exact hi)).symm, h5.symm, h6.symm⟩
theorem EQN.trans {S T U : SV} (h : EQN S T) (g : EQN T U) : EQN S U := by
  obtain ⟨h1, h2, h3, h4, h5, h6⟩ := h
  obtain ⟨g1, g2, g3, g4, g5, g6⟩ := g
  exact ⟨h1.trans g1, h2.trans g2, h3.trans g3, fun i hi => (h4 i hi).trans (g4 i (by rw [← h5]; exact hi)), h5.trans g5, h6.trans g6⟩
theorem EQN.rfl' {S : SV} : EQN S S := ⟨rfl, rfl, rfl, fun _ _ => rfl, rfl, rfl⟩
theorem SGD.eqn {P : List PG} {S T : SV} (h : SGD P S) (e : EQN S T) : SGD P T := by
  obtain ⟨M, lt, N, h1, h2, h3, h4, h5, h6, h7, h8⟩ := h
  obtain ⟨e1, e2, e3, e4, e5, e6⟩ := e
  refine ⟨M, lt, N, ?_, ?_, h3, ?_, ?_, ?_, ?_, ?_⟩
  · rw [← e3, ← e5]
    exact SIM.pk h1 e4
  · rw [← e6]
    exact h2
  · rw [← e2]; exact h4
  · rw [← e2]; exact h5
  · rw [← e1]; exact h6
  · rw [← e2]; exact h7
  · rw [← e1, ← e2, ← e6]; exact h8
theorem GSS.eqn {r d T : Nat} {P : List PG} {S U : SV} (h : GSS r d T P S) (e : EQN S U) : GSS r d T P U := by
  obtain ⟨M, lt, N, f, g1, g2, g3, g4, g5, g6, g7, g8, g10, g11, g12, goz⟩ := h
  obtain ⟨e1, e2, e3, e4, e5, e6⟩ := e
  refine ⟨M, lt, N, f, ?_, ?_, g3, ?_, ?_, ?_, ?_, ?_, ?_, g11, ?_, goz⟩
  · rw [← e3, ← e5]
    exact SIM.pk g1 e4
  · rw [← e6]; exact g2
  · rw [← e2]; exact g4
  · rw [← e2]; exact g5
  · rw [← e1]; exact g6
  · rw [← e2]; exact g7
  · rw [← e1]; exact g8
  · rw [← e6]; exact g10
  · rw [← e6]; exact g12
