/-! A FRESH OBJECT -/
theorem pgd_one (k : Nat) : pgd [(0, 0, 0, fun _ => 0)] k = pg0 := by
  cases k with
  | zero => rfl
  | succ k => rfl
theorem zf0 (e : Nat) : Zf e (fun _ => (0 : Int32)) := fun _ _ => rfl
theorem a00 : (0 : Int) ≤ (0 : Int32).toInt := by decide
theorem a09 : (0 : Int32).toInt ≤ 9 := by decide
theorem a02 : (0 : Int32).toInt ≤ 2 := by decide
theorem a01 : (0 : Int32).toInt < 1 := by decide
theorem gss_0 : GSS 0 0 0 [(0, 0, 0, fun _ => 0)] ((fun _ => 0), (fun _ => 0), (fun _ => 0), (fun _ => 0), 64, 0, 0, 0, 0, 0, 0, 0) := by
  refine ⟨fun _ _ => pg0, [], 0, fun _ => 0, ⟨⟨by decide, by decide, rfl⟩, fun j => ⟨a00, a01, fun _ => rfl⟩, fun a b => ?_, by decide, fun k l hk => by simp at hk⟩, rfl, by omega, fun j => ⟨a00, a09⟩, ⟨fun _ _ _ _ => rfl, fun _ _ => rfl⟩, zf0 6, zf0 36, fun a _ => ⟨a00, a02⟩, LJ.nil (by decide) (fun _ _ => rfl), fun _ => Nat.le_refl _, by decide, OZ.nil (fun _ _ => rfl)⟩
  show pg0 = if a < 6 ∧ b < 6 then pgd [(0, 0, 0, fun _ => 0)] (ix 0) else pg0
  rw [pgd_one]
  split <;> rfl
theorem slt_0 {B : Nat} (h : 64 ≤ B) : SLT B ((fun _ => 0), (fun _ => 0), (fun _ => 0), (fun _ => 0), 64, 0, 0, 0, 0, 0, 0, 0) := ⟨zf0 6, zf0 36, zf0 36, Nat.le_refl _, h⟩
theorem oks_M0 (R : Nat) : OKS R 0 0 0 1 [] none M0_ := by
  have hB := BR_pos R
  refine ⟨⟨gss_0, ⟨by decide, by decide, Nat.le_refl _, by decide⟩, ⟨⟨by decide, by decide, by decide⟩, fun k => ?_, by decide⟩, by omega⟩, by decide, slt_0 (by omega), slt_0 (by omega), rfl, ⟨fun j _ => slt_0 (by omega), 0, by decide, rfl, rfl, by decide, fun i S hi => by simp at hi⟩, zf0 36, zf0 6, by decide, by decide, rfl⟩
  rw [pgd_one]
  exact ⟨⟨by decide, by decide⟩, ⟨by decide, by decide⟩, fun j => ⟨a00, a09⟩⟩
theorem phs_M0 : 0 ≤ PHS M0_ := Nat.zero_le _
theorem m0_n : nS M0_.1 = nI 0 := rfl
theorem m0_ds : M0_.1.1 = fun _ => 0 := rfl
