/-! The heap at the start. -/
def h00 : mH := (fun k j => if k = 14 ∧ j = 0 then 4 else if k = 27 ∧ j = 13 then 4 else if k = 15 ∧ j = 2 then 2 else if k = 27 ∧ j = 14 then 2 else if 19 ≤ k ∧ k ≤ 22 ∧ j = 2 then -1 else if k = 28 then -1 else 0, fun _ _ => 0)
theorem g00 (k j : Nat) : gI h00 k j = if k = 14 ∧ j = 0 then 4 else if k = 27 ∧ j = 13 then 4 else if k = 15 ∧ j = 2 then 2 else if k = 27 ∧ j = 14 then 2 else if 19 ≤ k ∧ k ≤ 22 ∧ j = 2 then -1 else if k = 28 then -1 else 0 := rfl
theorem g00_0 {k : Nat} (hk : ¬ k = 14 ∧ ¬ k = 27 ∧ ¬ k = 15 ∧ (k < 19 ∨ 22 < k) ∧ ¬ k = 28) : gI h00 k = fun _ => 0 := funext fun j => by
  rw [g00, if_neg (by omega), if_neg (by omega), if_neg (by omega), if_neg (by omega), if_neg (by omega), if_neg (by omega)]
theorem inv_00 : Inv h00 := by
  have wf : WF 0 (gI h00 2) (gI h00 3) (gI h00 5) (gJ h00 6) := ⟨by omega, fun c hc => absurd hc (Nat.not_lt_zero c)⟩
  refine ⟨0, 0, 0, 4, 2, gI h00 2, gI h00 3, gI h00 5, gJ h00 6, ⟨rfl, rfl, Nat.le_refl 0, rfl, rfl, rfl, rfl, wf⟩, ⟨rfl, rfl, Nat.le_refl 0, ?_, ?_, ?_, wf⟩, ?_, ?_, rfl, rfl, Nat.le_refl 0, rfl, rfl, by omega, by omega, rfl, rfl, by omega, by omega, rfl, rfl, rfl, sub_zero 0, sub_zero 0, rfl, fun s hs => Or.inl ⟨?_, ?_⟩⟩
  · rw [g00_0 (by omega), g00_0 (by omega)]
  · rw [g00_0 (by omega), g00_0 (by omega)]
  · rw [g00_0 (by omega), g00_0 (by omega)]
  · rw [g00_0 (by omega), g00_0 (by omega)]
  · rw [g00_0 (by omega), g00_0 (by omega)]
  · rw [g00, if_neg (by omega), if_neg (by omega), if_neg (by omega), if_neg (by omega), if_pos (by omega)]
  · rfl
