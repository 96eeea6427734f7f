/-! the start: all rows empty -/
abbrev zM : Mem := fun _ _ => 0
theorem rel_zero : Rel zM zM (fun _ _ _ => 0) 0 0 0 (fun _ => 0) (fun _ => 0) := by
  refine ⟨⟨rfl, rfl, Nat.zero_le _, rfl, rfl, rfl, fun _ _ => rfl, fun _ _ _ _ => rfl, fun _ _ _ _ => ⟨0, by decide, rfl⟩, fun _ _ => rfl, fun _ _ => rfl⟩, fun e d _ _ => ⟨rfl, rfl, fun _ _ => rfl, fun _ _ => rfl, fun _ _ => rfl, fun _ _ h => absurd rfl h, fun _ _ h => absurd rfl h, fun _ _ => ?_, fun _ _ => ?_⟩, ⟨fun _ _ => rfl, fun _ _ _ h => absurd h (Nat.not_lt_zero _), fun _ _ _ h => absurd h (Nat.not_lt_zero _), fun _ _ _ h => absurd h (Nat.not_lt_zero _), fun _ _ _ h => absurd h (Nat.not_lt_zero _), fun _ _ _ _ => rfl⟩, fun _ _ => Nat.zero_le _, Nat.zero_le _, Nat.zero_le _⟩
  · rw [show zM (10, 0, e, d) _ = 0 from rfl, i_zero]; exact ⟨Int.le_refl 0, Int.le_refl 0⟩
  · rw [show zM (13, 0, e, d) _ = 0 from rfl, i_zero]; exact Int.le_refl 0
theorem li_zero : LInv zM gz0 0 := by
  refine ⟨fun _ => (zM, 0, fun _ => 0), fun _ => (0, 0, 0, 0, 0), 0, _, 0, 0, 0, _, _, rel_zero, ⟨rfl, fun _ h => absurd h (Nat.not_lt_zero _)⟩, ⟨rfl, fun _ h => absurd h (Nat.not_lt_zero _)⟩, ⟨fun _ _ _ _ => rfl, fun _ _ => rfl⟩, rfl, fun _ => rfl, fun _ => Nat.le_refl 0, Nat.le_refl 0, Nat.le_refl 0, Nat.le_refl 0, fun _ => Nat.le_refl 0, ?_⟩
  exact Nat.le_of_eq (sumN_zero 10)
