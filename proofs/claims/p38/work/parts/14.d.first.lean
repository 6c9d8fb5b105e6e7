/-- a new object's contents -/
def M0_ : MS := (((fun _ => 0), (fun _ => 0), (fun _ => 0), (fun _ => 0), 64, 0, 0, 0, 0, 0, 0, 0), ((fun _ => 0), (fun _ => 0), (fun _ => 0), (fun _ => 0), 64, 0, 0, 0, 0, 0, 0, 0), ((fun _ => 0), (fun _ => 0), (fun _ => 0), (fun _ => 0), 64, 0, 0, 0, 0, 0, 0, 0), ((fun _ _ => 0), (fun _ _ => 0), (fun _ _ => 0), (fun _ _ => 0), (fun _ => 64), (fun _ => 0), (fun _ => 0), (fun _ => 0), (fun _ => 0), (fun _ => 0), (fun _ => 0), (fun _ => 0), 0, 0), (fun _ => 0), (fun _ => 0), (fun _ => 0), 0, 0, 0, (fun _ => 0), (fun _ => 0), 16, 0, 0, 0, (-1), 0, 0, 0, 0, 0, 10, 1, [(0, 0, 0, fun _ => 0)])
theorem m0a : 0 ≤ (0 : Int32).toInt := by decide +kernel
theorem m0b : (0 : Int32).toInt ≤ 9 := by decide +kernel
theorem m0c : (0 : Int32).toInt < 6 := by decide +kernel
theorem m0d : (0 : Int32).toInt ≤ ((1 : Nat) : Int) := by decide +kernel
theorem m0e : 64 ≤ 2000000 := by decide
theorem m0f : (0 : Int32).toInt ≤ ((64 : Nat) : Int) := by decide +kernel
theorem m0g : (0 : Int32).toInt ≤ 1000000 := by decide +kernel
theorem m0h : (0 : Int32).toInt ≤ 6 := by decide +kernel
theorem m0i : 0 < 1 := by decide
theorem m0j : 1 ≤ 2000000 := by decide
theorem m0_pgx : PGX_ [((0 : Int32), (0 : Int32), (0 : Int32), fun _ => (0 : Int32))] := by
  intro k
  match k with
  | 0 => exact ⟨⟨m0a, m0c⟩, ⟨m0a, m0d⟩, fun _ => ⟨m0a, m0b⟩⟩
  | k + 1 => exact ⟨⟨m0a, m0c⟩, ⟨m0a, m0d⟩, fun _ => ⟨m0a, m0b⟩⟩
set_option maxRecDepth 20000 in
theorem M0_XI : XI 1 M0_ := ⟨(by decide +kernel), (by decide +kernel), (by decide +kernel), (by decide +kernel), (by decide +kernel), (by decide +kernel), (by decide +kernel), (by decide +kernel), (by decide +kernel), (by decide +kernel), (by decide +kernel), (by decide +kernel), (by decide +kernel), (by decide +kernel), (by decide +kernel), (by decide +kernel), (by decide +kernel), (by decide +kernel), (by decide +kernel), (by decide +kernel), (by decide +kernel), (by decide +kernel), (by decide +kernel), (fun _ => ⟨Nat.le_refl 64, m0e, m0a, m0f, m0g⟩), (fun _ _ => ⟨m0a, m0h⟩), (by decide +kernel), (by decide +kernel), (by decide +kernel), sb_fit0, (by decide +kernel), (by decide +kernel), (by decide +kernel), (by decide +kernel), (by decide +kernel), (by decide +kernel), (by decide +kernel), (by decide +kernel), (by decide +kernel), m0_pgx, (fun _ => ⟨m0a, m0b⟩), (fun _ => ⟨m0a, m0b⟩), (fun _ => ⟨m0a, m0b⟩), (fun _ _ => ⟨m0a, m0b⟩)⟩
theorem egl_one (a b : Nat) : va_up (fun _ => none) 0 (some a) = egl [(a, b)] := by
  have h0 : (fun _ => none : Nat → Option Nat) = egl [] := by
    funext j
    unfold egl
    first | rfl | simp
  rw [h0]
  exact egl_push (AL := []) (b := b) rfl
