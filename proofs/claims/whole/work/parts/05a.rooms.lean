def roomOK (d : mD) : Bool := d.2.2.2.2.2.2.2.2.all fun q => (!(q.2.1 == 9 || q.2.1 == 10) || (decide (1 ≤ d.2.2.2.2.2.1) && decide (21 ≤ d.2.2.2.2.2.2.1))) && (!(q.2.1 == 11) || (decide (1 ≤ d.2.2.2.2.2.1) && decide (26 ≤ d.2.2.2.2.2.2.1)))
theorem mtab_room : mtab.all roomOK = true := by decide +kernel
theorem md_max (y j : Nat) (h : (lk y j).1 = 9) : 1 ≤ (md y).2.2.2.2.2.1 ∧ 21 ≤ (md y).2.2.2.2.2.2.1 := by
  rcases lkF_in (md y).2.2.2.2.2.2.2.2 j with h1 | h1
  · exact absurd (h.symm.trans h1) (by decide)
  · have h2 := List.all_eq_true.mp (List.all_eq_true.mp mtab_room _ (md_in y)) _ h1
    have h : (lkF (md y).2.2.2.2.2.2.2.2 j).1 = 9 := h
    simp [h] at h2
    exact h2
theorem md_min (y j : Nat) (h : (lk y j).1 = 10) : 1 ≤ (md y).2.2.2.2.2.1 ∧ 21 ≤ (md y).2.2.2.2.2.2.1 := by
  rcases lkF_in (md y).2.2.2.2.2.2.2.2 j with h1 | h1
  · exact absurd (h.symm.trans h1) (by decide)
  · have h2 := List.all_eq_true.mp (List.all_eq_true.mp mtab_room _ (md_in y)) _ h1
    have h : (lkF (md y).2.2.2.2.2.2.2.2 j).1 = 10 := h
    simp [h] at h2
    exact h2
theorem md_acp (y j : Nat) (h : (lk y j).1 = 11) : 1 ≤ (md y).2.2.2.2.2.1 ∧ 26 ≤ (md y).2.2.2.2.2.2.1 := by
  rcases lkF_in (md y).2.2.2.2.2.2.2.2 j with h1 | h1
  · exact absurd (h.symm.trans h1) (by decide)
  · have h2 := List.all_eq_true.mp (List.all_eq_true.mp mtab_room _ (md_in y)) _ h1
    have h : (lkF (md y).2.2.2.2.2.2.2.2 j).1 = 11 := h
    simp [h] at h2
    exact h2
