/-! SHEET. -/
section SJ
variable {n sl ly ev per s : Nat} {P Q K : Nat → Int32} {E : Nat → Int64} {h h' h1 h2 : mH}
/-- only the items of one sheet -/
theorem renew_loop (hs : s < 4) (x1 x2 : Int32) : ∀ (m c : Nat) (h : mH), c + m = 60 → ∃ h', Ev 160 21 [some (.ref (19 + s)), some (.int x1), some (.int x2), some (.int (nI c))] [] h = some (none, h') ∧ Zs s h h' ∧ (∀ k, ¬ k = 23 + s → gI h' k = gI h k) ∧ (∀ j, j < c → gI h' (23 + s) j = gI h (23 + s) j) ∧ ∀ j, c ≤ j → j < 60 → gI h' (23 + s) j = 0
  | 0, c, h, hk => by
    obtain rfl : c = 60 := by omega
    refine ⟨h, ?_, zs_refl s h, fun _ _ => rfl, fun _ _ => rfl, fun j h1 h2 => by omega⟩
    rw [b160_21, if_pos (by decide), b160_40]
  | m + 1, c, h, hk => by
    obtain ⟨h', e1, e2, e3, e4, e5⟩ := renew_loop hs x1 x2 m (c + 1) (sI h (23 + s) c 0) (by omega)
    refine ⟨h', ?_, zs_trans (zs_sI (zs_refl s h) (Or.inr (Or.inl rfl))) e2, fun k hk => ?_, fun j hj => ?_, fun j h1 h2 => ?_⟩
    · rw [← e1, b160_21, if_neg (show ¬ (60 : Int32) ≤ nI c from by rw [show (60 : Int32) = nI 60 from rfl, le_nI (by omega) (by omega)]; omega), b160_27 _ _ _ _ _ (shp_s hs).1, b160_31 _ _ _ _ _ _ (shp_s hs).2, if_pos (of_eq_true (gd_nI (a := c) (N := 60) (by omega) (by omega))), cl_nI (by omega), show 19 + s + 4 = 23 + s by omega, b160_34, nI_1]
    · rw [e3 k hk, fI_ne hk]
    · rw [e4 j (by omega), up_sI, up, if_neg (by omega)]
    · by_cases hj : j = c
      · subst hj; rw [e4 j (by omega), up_sI, up, if_pos rfl]
      · exact e5 j (by omega) h2
theorem clampL {l : Nat} (hl : l ≤ 60) : (if (0 : Int32) < (if (60 : Int32) < nI l then 60 else nI l) then (if (60 : Int32) < nI l then 60 else nI l) else 0) = nI l := by
  rw [if_neg (show ¬ (60 : Int32) < nI l from by rw [show (60 : Int32) = nI 60 from rfl, lt_nI (by omega) (by omega)]; omega)]
  by_cases h0 : l = 0
  · subst h0; decide
  · rw [if_pos (show (0 : Int32) < nI l from by rw [show (0 : Int32) = nI 0 from rfl, lt_nI (by omega) (by omega)]; omega)]
theorem msheet_loop (hs : s < 4) {l : Nat} (hl : l ≤ 60) (x2 : Int32) : ∀ (m c : Nat) (h : mH), c + m = l → ∃ h', Ev 51 55 [some (.ref 27), some (.int (nI s)), some (.int x2), some (.int (nI l)), some (.int (nI c))] [] h = some (some (.int (nI l)), h') ∧ Zs s h h' ∧ (∀ k, ¬ k = 30 → gI h' k = gI h k) ∧ (∀ j, j < c → gI h' 30 (60 * s + j) = gI h 30 (60 * s + j)) ∧ ∀ j, c ≤ j → j < l → gI h' 30 (60 * s + j) = 0
  | 0, c, h, hk => by
    obtain rfl : c = l := by omega
    refine ⟨h, ?_, zs_refl s h, fun _ _ => rfl, fun _ _ => rfl, fun j h1 h2 => by omega⟩
    rw [b51_55, if_pos (by rw [le_nI (by omega) (by omega)]; omega), b51_80]
  | m + 1, c, h, hk => by
    obtain ⟨h', e1, e2, e3, e4, e5⟩ := msheet_loop hs hl x2 m (c + 1) (sI h 30 (60 * s + c) 0) (by omega)
    refine ⟨h', ?_, zs_trans (zs_sI (zs_refl s h) (Or.inr (Or.inr (Or.inr (Or.inr ⟨rfl, by omega, by omega⟩))))) e2, fun k hk => ?_, fun j hj => ?_, fun j h1 h2 => ?_⟩
    · rw [← e1, b51_55, if_neg (by rw [le_nI (by omega) (by omega)]; omega), b51_61, ix60, if_pos (gd240 hs (by omega)), cl_nI (by omega), b51_74, nI_1]
    · rw [e3 k hk, fI_ne hk]
    · rw [e4 j (by omega), up_sI, up, if_neg (by omega)]
    · by_cases hj : j = c
      · subst hj; rw [e4 j (by omega), up_sI, up, if_pos rfl]
      · exact e5 j (by omega) h2
theorem p_sheet (x y z : Int32) : Pr 23 51 [.int x, .int y, .int z] := by
  intro h i
  rcases rng_s x with ⟨s, hs, rfl⟩ | hx
  · rcases rng_in y (k := 2) (by omega) with ⟨f, hf, rfl⟩ | hy
    · have cpre : Ev 23 0 [some (.ref 0), some (.int (nI s)), some (.int (nI f)), some (.int z), none] [] h = Ev 23 19 [some (.ref 0), some (.int (nI s)), some (.int (nI f)), some (.int z), some (.ref (19 + s))] [] h := by
        rw [b23_0, r_sheetAt hs, rA_ref, b23_5S, r_isForm hf, rI_some, b23_16, if_neg (by decide)]
      have mpre : ∀ h, Ev 51 0 [some (.ref 27), some (.int (nI s)), some (.int (nI f)), some (.int z), none] [] h = Ev 51 19 [some (.ref 27), some (.int (nI s)), some (.int (nI f)), some (.int z), none] [] h := by
        intro h
        rw [b51_0, r_isSheet hs, rI_some, b51_4, if_neg (by decide), b51_7, in_yes (k := 2) (by omega) hf (A := 0) (B := 2) (by decide) (by decide), rI_some, b51_16, if_neg (by decide)]
      by_cases z60 : z ≤ 60
      · by_cases z0 : 0 ≤ z
        · obtain ⟨l, hl, rfl⟩ : ∃ l, l ≤ 60 ∧ z = nI l := by
            rcases int_cases z with q | ⟨j, hj, rfl⟩
            · exact absurd q (Int32.not_lt.mpr z0)
            · refine ⟨j, ?_, rfl⟩
              rw [show (60 : Int32) = nI 60 from rfl, le_nI (by omega) (by omega)] at z60
              exact z60
          obtain ⟨h1, eh1⟩ : ∃ h1, h1 = sI (sI h (19 + s) 1 (nI f)) (19 + s) 2 (nI l) := ⟨_, rfl⟩
          obtain ⟨h2, e1, e2, e3, e4, e5⟩ := renew_loop hs (nI f) (nI l) 60 0 h1 rfl
          obtain ⟨h3, eh3⟩ : ∃ h3, h3 = sI (sI h2 28 s (nI f)) 29 s (nI l) := ⟨_, rfl⟩
          obtain ⟨h4, f1, f2, f3, f4, f5⟩ := msheet_loop hs hl (nI f) l 0 h3 (by omega)
          refine ⟨some (.int (nI l)), h2, h4, ?_, ?_, ?_⟩
          · have rn : Rt 160 [.ref (19 + s), .int (nI f), .int (nI l)] h = some (none, h2) := by
              show Ev 160 0 [some (.ref (19 + s)), some (.int (nI f)), some (.int (nI l)), none] [] h = _
              rw [b160_0 _ _ _ _ _ (shp_s hs).1, b160_5 _ _ _ _ _ (shp_s hs).1, clampL hl, ← eh1, b160_19]
              exact e1
            refine Eq.trans cpre ?_
            rw [b23_19, if_pos z60, b23_28, if_pos z0, b23_38S _ _ _ _ _ (shp_s hs).1, rn, rV_some, b23_45]
          · refine Eq.trans (mpre h2) ?_
            rw [b51_19, if_pos z60, b51_28, if_pos z0, b51_38, if_pos (gd4 hs), cl_nI (by omega), b51_45, if_pos (gd4 hs), cl_nI (by omega), ← eh3, b51_52]
            exact f1
          · have z1 : Zs s h h1 := by rw [eh1]; exact zs_sI (zs_sI (zs_refl s h) (Or.inl rfl)) (Or.inl rfl)
            have z3 : Zs s h2 h3 := by rw [eh3]; exact zs_sI (zs_sI (zs_refl s h2) (Or.inr (Or.inr (Or.inl ⟨rfl, rfl⟩)))) (Or.inr (Or.inr (Or.inr (Or.inl ⟨rfl, rfl⟩))))
            have k19 : gI h4 (19 + s) = gI h1 (19 + s) := by
              rw [f3 _ (by omega), eh3, fI_ne (by omega), fI_ne (by omega), e3 _ (by omega)]
            refine inv_sheet i hs (zs_trans z1 (zs_trans e2 (zs_trans z3 f2))) (Or.inr ⟨l, f, hl, by omega, ?_, ?_, ?_, ?_, fun j hj => ?_⟩)
            · rw [k19, eh1]; simp [gI_sI]
            · rw [f3 29 (by omega), eh3]; simp [gI_sI]
            · rw [k19, eh1]; simp [gI_sI]
            · rw [f3 28 (by omega), eh3]; simp [gI_sI]
            · rw [f5 j (by omega) hj, f3 _ (by omega), eh3, fI_ne (by omega), fI_ne (by omega), e5 j (by omega) (by omega)]
        · refine ⟨some (.int (fd 5)), sI h 0 7 5, sI (sI h 0 7 5) 27 4 5, ?_, ?_, inv_find i 5⟩
          · refine Eq.trans cpre ?_
            rw [b23_19, if_pos z60, b23_28, if_neg z0, b23_32, r_finding, rI_some, b23_37]
          · refine Eq.trans (mpre _) ?_
            rw [b51_19, if_pos z60, b51_28, if_neg z0, b51_32, r_finds, rI_some, b51_37]
      · refine pr_of h i (r := some (.int (-2))) (h1 := h) (h2 := h) ?_ (sx_refl [] _) (by decide) ?_ (sx_refl [] _) (by decide)
        · refine Eq.trans cpre ?_
          rw [b23_19, if_neg z60, b23_25]
        · refine Eq.trans (mpre h) ?_
          rw [b51_19, if_neg z60, b51_25]
    · refine pr_of h i (r := some (.int (-2))) (h1 := h) (h2 := h) ?_ (sx_refl [] _) (by decide) ?_ (sx_refl [] _) (by decide)
      · show Ev 23 0 [some (.ref 0), some (.int (nI s)), some (.int y), some (.int z), none] [] h = _
        rw [b23_0, r_sheetAt hs, rA_ref, b23_5S, r_isForm_no hy, rI_some, b23_16, if_pos rfl, b23_25]
      · show Ev 51 0 [some (.ref 27), some (.int (nI s)), some (.int y), some (.int z), none] [] h = _
        rw [b51_0, r_isSheet hs, rI_some, b51_4, if_neg (by decide), b51_7, in_no (k := 2) hy (A := 0) (B := 2) (by decide) (by decide), rI_some, b51_16, if_pos rfl, b51_25]
  · refine pr_of h i (r := some (.int (-2))) (h1 := h) (h2 := h) ?_ (sx_refl [] _) (by decide) ?_ (sx_refl [] _) (by decide)
    · show Ev 23 0 [some (.ref 0), some (.int x), some (.int y), some (.int z), none] [] h = _
      rw [b23_0, r_sheetAt_no hx, rA_null, b23_5N, b23_25]
    · show Ev 51 0 [some (.ref 27), some (.int x), some (.int y), some (.int z), none] [] h = _
      rw [b51_0, r_isSheet_no hx, rI_some, b51_4, if_pos rfl, b51_25]
end SJ
