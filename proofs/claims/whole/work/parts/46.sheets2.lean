/-! LOSE, SHEET, GET, LAY. -/
section SI
variable {n sl ly ev per s : Nat} {P Q K : Nat → Int32} {E : Nat → Int64} {h h' h1 h2 : mH}
theorem inv_xs (i : Inv h) (hs : s < 4) : Xs h s := by
  obtain ⟨n, sl, ly, ev, per, P, Q, K, E, c, m, x⟩ := i
  exact x.2.2.2.2.2.2.2.2.2.2.2.2.2.2.2.2.2.2.2 s hs
theorem gd4 (hs : s < 4) : 0 ≤ nI s ∧ (nI s).toNatClampNeg < 4 := of_eq_true (gd_nI (a := s) (N := 4) hs (by omega))
theorem ge0f {f : Nat} (hf : f < 3) : 0 ≤ nI f := by rw [ge0_nI (by omega)]; trivial
theorem p_lose (y : Int32) : Pr 24 52 [.int y] := by
  intro h i
  rcases rng_s y with ⟨s, hs, rfl⟩ | hy
  · rcases inv_xs i hs with ⟨e1, e2⟩ | ⟨l, f, x1, x2, x3, x4, x5, x6, x7⟩
    · refine ⟨some (.int (fd 1)), sI h 0 7 1, sI (sI h 0 7 1) 27 4 1, ?_, ?_, inv_find i 1⟩
      · show Ev 24 0 [some (.ref 0), some (.int (nI s)), none, none] [] h = _
        rw [b24_0, r_sheetAt hs, rA_ref, b24_5S, b24_13S _ _ _ _ (shp_s hs).1, r_lost hs e1, rI_some, b24_17, if_neg (by decide), b24_20, r_finding, rI_some, b24_25]
      · show Ev 52 0 [some (.ref 27), some (.int (nI s))] [] (sI h 0 7 1) = _
        have q : gI (sI h 0 7 1) 28 s = -1 := by simp (disch := omega) only [fI_sJ, fJ_sI, fI_ne, fJ_ne, gI_sI, gJ_sJ, Nat.reduceEqDiff, eq_self, and_true, true_and, and_false, false_and, and_self, if_true, if_false, reduceIte, Nat.succ_ne_zero, e2]
        rw [b52_0, r_isSheet hs, rI_some, b52_4, if_pos (by decide), b52_10, if_pos (gd4 hs), cl_nI (by omega), q, b52_16, if_neg (by decide), b52_19, r_finds, rI_some, b52_24]
    · refine ⟨some (.int (nI l)), sI h (19 + s) 2 (-1), sI (sI h (19 + s) 2 (-1)) 28 s (-1), ?_, ?_, ?_⟩
      · show Ev 24 0 [some (.ref 0), some (.int (nI s)), none, none] [] h = _
        rw [b24_0, r_sheetAt hs, rA_ref, b24_5S, b24_13S _ _ _ _ (shp_s hs).1, r_notlost hs x1 x3, rI_some, b24_17, if_pos rfl, b24_26S _ _ _ _ (shp_s hs).1, x3, b24_30S _ _ _ _ _ (shp_s hs).1, b24_36]
      · show Ev 52 0 [some (.ref 27), some (.int (nI s))] [] (sI h (19 + s) 2 (-1)) = _
        have q : gI (sI h (19 + s) 2 (-1)) 28 s = nI f := by rw [fI_ne (by omega)]; exact x6
        have q2 : gI (sI (sI h (19 + s) 2 (-1)) 28 s (-1)) 29 s = nI l := by rw [fI_ne (by omega), fI_ne (by omega)]; exact x4
        rw [b52_0, r_isSheet hs, rI_some, b52_4, if_pos (by decide), b52_10, if_pos (gd4 hs), cl_nI (by omega), q, b52_16, if_pos (ge0f x2), b52_25, if_pos (gd4 hs), cl_nI (by omega), b52_32, if_pos (gd4 hs), cl_nI (by omega), q2, b52_38]
      · refine inv_sheet i hs (zs_sI (zs_sI (zs_refl s h) (Or.inl rfl)) (Or.inr (Or.inr (Or.inl ⟨rfl, rfl⟩)))) (Or.inl ⟨?_, ?_⟩)
        · rw [fI_ne (by omega)]; simp [gI_sI]
        · simp [gI_sI]
  · refine pr_of h i (r := some (.int (-2))) (h1 := h) (h2 := h) ?_ (sx_refl [] _) (by decide) ?_ (sx_refl [] _) (by decide)
    · show Ev 24 0 [some (.ref 0), some (.int y), none, none] [] h = _
      rw [b24_0, r_sheetAt_no hy, rA_null, b24_5N]
    · show Ev 52 0 [some (.ref 27), some (.int y)] [] h = _
      rw [b52_0, r_isSheet_no hy, rI_some, b52_4, if_neg (by decide), b52_7]
theorem m1_lt60 {n : Nat} (hn : n ≤ 60) (x : Int32) : (nI n - 1 < x) = (nI n ≤ x) := by
  rw [Int32.lt_iff_toInt_lt, Int32.le_iff_toInt_le, show (nI n - 1).toInt = (n : Int) - 1 from pk_sub_toInt (a := n) (b := 1) (by omega) (by omega), nI_toInt (by omega)]
  exact propext (by omega)
theorem rng_it (x : Int32) {l : Nat} (hl : l ≤ 60) : (∃ i, i < l ∧ x = nI i) ∨ (x < 0 ∨ nI l ≤ x) := by
  rcases int_cases x with hx | ⟨j, hj, rfl⟩
  · exact Or.inr (Or.inl hx)
  · by_cases h1 : j < l
    · exact Or.inl ⟨j, h1, rfl⟩
    · exact Or.inr (Or.inr (by rw [le_nI (by omega) (by omega)]; omega))
/-- what is wrong with an item, on either side -/
theorem fault_or (hs : s < 4) (x : Xs h s) (f : Int32) (y : Int32) : (∃ v, (v = 1 ∨ v = 2 ∨ v = 3) ∧ Rt 161 [.ref (19 + s), .int f, .int y] h = some (some (.int v), h) ∧ ∀ h', gI h' 28 = gI h 28 → gI h' 29 = gI h 29 → Rt 53 [.ref 27, .int (nI s), .int f, .int y] h' = some (some (.int (fd v)), sI h' 27 4 v)) ∨ (∃ l i, l ≤ 60 ∧ i < l ∧ y = nI i ∧ gI h (19 + s) 2 = nI l ∧ gI h 29 s = nI l ∧ gI h (19 + s) 1 = f ∧ gI h 28 s = f ∧ (∃ g, g < 3 ∧ f = nI g) ∧ (∀ i, i < l → gI h 30 (60 * s + i) = gI h (23 + s) i) ∧ Rt 161 [.ref (19 + s), .int f, .int y] h = some (some (.int 0), h) ∧ ∀ h', gI h' 28 = gI h 28 → gI h' 29 = gI h 29 → Rt 53 [.ref 27, .int (nI s), .int f, .int y] h' = some (some (.int 0), h')) := by
  rcases x with ⟨e1, e2⟩ | ⟨l, g, x1, x2, x3, x4, x5, x6, x7⟩
  · refine Or.inl ⟨1, Or.inl rfl, ?_, fun h' q1 q2 => ?_⟩
    · show Ev 161 0 [some (.ref (19 + s)), some (.int f), some (.int y)] [] h = _
      rw [b161_0 _ _ _ _ (shp_s hs).1, r_lost hs e1, rI_some, b161_4, if_neg (by decide), b161_7]
    · show Ev 53 0 [some (.ref 27), some (.int (nI s)), some (.int f), some (.int y)] [] h' = _
      rw [b53_0, if_pos (gd4 hs), cl_nI (by omega), q1, e2, b53_6, if_neg (by decide), b53_9, r_finds, rI_some, b53_14]
  · by_cases hf : f = nI g
    · subst hf
      rcases rng_it y x1 with ⟨i, hi, rfl⟩ | hy
      · refine Or.inr ⟨l, i, x1, hi, rfl, x3, x4, x5, x6, ⟨g, x2, rfl⟩, x7, ?_, fun h' q1 q2 => ?_⟩
        · show Ev 161 0 [some (.ref (19 + s)), some (.int (nI g)), some (.int (nI i))] [] h = _
          rw [b161_0 _ _ _ _ (shp_s hs).1, r_notlost hs x1 x3, rI_some, b161_4, if_pos rfl, b161_9 _ _ _ _ (shp_s hs).1, x5, b161_14, if_pos rfl, b161_19 _ _ _ _ (shp_s hs).1, it_yes hs x1 hi x3, rI_some, b161_24, if_neg (by decide), b161_27, b161_32]
        · show Ev 53 0 [some (.ref 27), some (.int (nI s)), some (.int (nI g)), some (.int (nI i))] [] h' = _
          have hin : Rt 44 [.long (nI i).toInt64, .long 0, .long (nI l - 1).toInt64] h' = some (some (.int 1), h') := by
            rw [r_inI (a := 0) (b := nI l - 1) (by decide) rfl, if_neg]
            rintro (q | q)
            · rw [lt0_nI (by omega)] at q; exact q
            · rw [m1_lt60 x1, le_nI (by omega) (by omega)] at q; omega
          rw [b53_0, if_pos (gd4 hs), cl_nI (by omega), q1, x6, b53_6, if_pos (ge0f x2), b53_15, if_pos (gd4 hs), cl_nI (by omega), q1, x6, b53_21, if_pos rfl, b53_31, if_pos (gd4 hs), cl_nI (by omega), q2, x4, b53_40, hin, rI_some, b53_46, if_neg (by decide), b53_49, b53_58]
      · refine Or.inl ⟨2, Or.inr (Or.inl rfl), ?_, fun h' q1 q2 => ?_⟩
        · show Ev 161 0 [some (.ref (19 + s)), some (.int (nI g)), some (.int y)] [] h = _
          rw [b161_0 _ _ _ _ (shp_s hs).1, r_notlost hs x1 x3, rI_some, b161_4, if_pos rfl, b161_9 _ _ _ _ (shp_s hs).1, x5, b161_14, if_pos rfl, b161_19 _ _ _ _ (shp_s hs).1, it_no hs x1 hy x3, rI_some, b161_24, if_pos rfl, b161_31, b161_32]
        · show Ev 53 0 [some (.ref 27), some (.int (nI s)), some (.int (nI g)), some (.int y)] [] h' = _
          have hin : Rt 44 [.long y.toInt64, .long 0, .long (nI l - 1).toInt64] h' = some (some (.int 0), h') := by
            rw [r_inI (a := 0) (b := nI l - 1) (by decide) rfl, if_pos]
            rw [m1_lt60 x1]; exact hy
          rw [b53_0, if_pos (gd4 hs), cl_nI (by omega), q1, x6, b53_6, if_pos (ge0f x2), b53_15, if_pos (gd4 hs), cl_nI (by omega), q1, x6, b53_21, if_pos rfl, b53_31, if_pos (gd4 hs), cl_nI (by omega), q2, x4, b53_40, hin, rI_some, b53_46, if_pos rfl, b53_53, r_finds, rI_some, b53_58]
    · refine Or.inl ⟨3, Or.inr (Or.inr rfl), ?_, fun h' q1 q2 => ?_⟩
      · show Ev 161 0 [some (.ref (19 + s)), some (.int f), some (.int y)] [] h = _
        rw [b161_0 _ _ _ _ (shp_s hs).1, r_notlost hs x1 x3, rI_some, b161_4, if_pos rfl, b161_9 _ _ _ _ (shp_s hs).1, x5, b161_14, if_neg hf, b161_17]
      · show Ev 53 0 [some (.ref 27), some (.int (nI s)), some (.int f), some (.int y)] [] h' = _
        rw [b53_0, if_pos (gd4 hs), cl_nI (by omega), q1, x6, b53_6, if_pos (ge0f x2), b53_15, if_pos (gd4 hs), cl_nI (by omega), q1, x6, b53_21, if_neg (fun q => hf q.symm), b53_25, r_finds, rI_some, b53_30]
theorem fd_ne {v : Int32} (hv : v = 1 ∨ v = 2 ∨ v = 3) : ¬ v = 0 ∧ ¬ fd v = 0 := by rcases hv with rfl | rfl | rfl <;> decide
theorem gd240 (hs : s < 4) {i : Nat} (hi : i < 60) : 0 ≤ nI (60 * s + i) ∧ (nI (60 * s + i)).toNatClampNeg < 240 := of_eq_true (gd_nI (a := 60 * s + i) (N := 240) (by omega) (by omega))
theorem p_get (x y z : Int32) : Pr 26 56 [.int x, .int y, .int z] := by
  intro h i
  rcases rng_s x with ⟨s, hs, rfl⟩ | hx
  · rcases rng_in y (k := 2) (by omega) with ⟨f, hf, rfl⟩ | hy
    · rcases fault_or hs (inv_xs i hs) (nI f) z with ⟨v, hv, e1, e2⟩ | ⟨l, k, q1, q2, rfl, q3, q4, q5, q6, q7, q8, e1, e2⟩
      · refine ⟨some (.int (-2147483648)), sI h 0 7 v, sI (sI h 0 7 v) 27 4 v, ?_, ?_, inv_find i v⟩
        · show Ev 26 0 [some (.ref 0), some (.int (nI s)), some (.int (nI f)), some (.int z), none, none] [] h = _
          rw [b26_0, r_sheetAt hs, rA_ref, b26_5S, r_isForm hf, rI_some, b26_16, if_pos (by decide), b26_22S _ _ _ _ _ _ (shp_s hs).1, e1, rI_some, b26_29S, if_neg (fd_ne hv).1, b26_36]
        · show Ev 56 0 [some (.ref 27), some (.int (nI s)), some (.int (nI f)), some (.int z)] [] (sI h 0 7 v) = _
          rw [b56_0, r_isSheet hs, rI_some, b56_4, if_neg (by decide), b56_7, in_yes (k := 2) (by omega) hf (A := 0) (B := 2) (by decide) (by decide), rI_some, b56_16, if_neg (by decide), b56_19, e2 _ (by simp (disch := omega) only [fI_sJ, fJ_sI, fI_ne, fJ_ne, gI_sI, gJ_sJ, Nat.reduceEqDiff, eq_self, and_true, true_and, and_false, false_and, and_self, if_true, if_false, reduceIte, Nat.succ_ne_zero]) (by simp (disch := omega) only [fI_sJ, fJ_sI, fI_ne, fJ_ne, gI_sI, gJ_sJ, Nat.reduceEqDiff, eq_self, and_true, true_and, and_false, false_and, and_self, if_true, if_false, reduceIte, Nat.succ_ne_zero]), rI_some, b56_26, if_neg (fd_ne hv).2, b56_29]
      · refine pr_of h i (r := some (.int (gI h (23 + s) k))) (h1 := h) (h2 := h) ?_ (sx_refl [] _) (by decide) ?_ (sx_refl [] _) (by decide)
        · show Ev 26 0 [some (.ref 0), some (.int (nI s)), some (.int (nI f)), some (.int (nI k)), none, none] [] h = _
          rw [b26_0, r_sheetAt hs, rA_ref, b26_5S, r_isForm hf, rI_some, b26_16, if_pos (by decide), b26_22S _ _ _ _ _ _ (shp_s hs).1, e1, rI_some, b26_29S, if_pos rfl, b26_45S _ _ _ _ _ _ (shp_s hs).1, r_itemAt hs q1 q2 q3, rI_some, b26_51]
        · show Ev 56 0 [some (.ref 27), some (.int (nI s)), some (.int (nI f)), some (.int (nI k))] [] h = _
          rw [b56_0, r_isSheet hs, rI_some, b56_4, if_neg (by decide), b56_7, in_yes (k := 2) (by omega) hf (A := 0) (B := 2) (by decide) (by decide), rI_some, b56_16, if_neg (by decide), b56_19, e2 h rfl rfl, rI_some, b56_26, if_pos rfl, b56_32, ix60, if_pos (gd240 hs (by omega)), cl_nI (by omega), q8 k q2, b56_43]
    · refine pr_of h i (r := some (.int (-2147483648))) (h1 := h) (h2 := h) ?_ (sx_refl [] _) (by decide) ?_ (sx_refl [] _) (by decide)
      · show Ev 26 0 [some (.ref 0), some (.int (nI s)), some (.int y), some (.int z), none, none] [] h = _
        rw [b26_0, r_sheetAt hs, rA_ref, b26_5S, r_isForm_no hy, rI_some, b26_16, if_neg (by decide), b26_19]
      · show Ev 56 0 [some (.ref 27), some (.int (nI s)), some (.int y), some (.int z)] [] h = _
        rw [b56_0, r_isSheet hs, rI_some, b56_4, if_neg (by decide), b56_7, in_no (k := 2) hy (A := 0) (B := 2) (by decide) (by decide), rI_some, b56_16, if_pos rfl, b56_29]
  · refine pr_of h i (r := some (.int (-2147483648))) (h1 := h) (h2 := h) ?_ (sx_refl [] _) (by decide) ?_ (sx_refl [] _) (by decide)
    · show Ev 26 0 [some (.ref 0), some (.int x), some (.int y), some (.int z), none, none] [] h = _
      rw [b26_0, r_sheetAt_no hx, rA_null, b26_5N, b26_19]
    · show Ev 56 0 [some (.ref 27), some (.int x), some (.int y), some (.int z)] [] h = _
      rw [b56_0, r_isSheet_no hx, rI_some, b56_4, if_pos rfl, b56_29]
theorem p_lay (x y z v : Int32) : Pr 25 55 [.int x, .int y, .int z, .int v] := by
  intro h i
  rcases rng_s x with ⟨s, hs, rfl⟩ | hx
  · rcases rng_in y (k := 2) (by omega) with ⟨f, hf, rfl⟩ | hy
    · rcases fault_or hs (inv_xs i hs) (nI f) z with ⟨w, hw, e1, e2⟩ | ⟨l, k, q1, q2, rfl, q3, q4, q5, q6, q7, q8, e1, e2⟩
      · refine ⟨some (.int (fd w)), sI h 0 7 w, sI (sI h 0 7 w) 27 4 w, ?_, ?_, inv_find i w⟩
        · show Ev 25 0 [some (.ref 0), some (.int (nI s)), some (.int (nI f)), some (.int z), some (.int v), none, none] [] h = _
          rw [b25_0, r_sheetAt hs, rA_ref, b25_5S, r_isForm hf, rI_some, b25_16, if_pos (by decide), b25_22S _ _ _ _ _ _ _ (shp_s hs).1, e1, rI_some, b25_29S, if_neg (fd_ne hw).1, b25_36, r_finding, rI_some, b25_42]
        · show Ev 55 0 [some (.ref 27), some (.int (nI s)), some (.int (nI f)), some (.int z), some (.int v), none] [] (sI h 0 7 w) = _
          rw [b55_0, r_isSheet hs, rI_some, b55_4, if_neg (by decide), b55_7, in_yes (k := 2) (by omega) hf (A := 0) (B := 2) (by decide) (by decide), rI_some, b55_16, if_pos (by decide), b55_22, e2 _ (by simp (disch := omega) only [fI_sJ, fJ_sI, fI_ne, fJ_ne, gI_sI, gJ_sJ, Nat.reduceEqDiff, eq_self, and_true, true_and, and_false, false_and, and_self, if_true, if_false, reduceIte, Nat.succ_ne_zero]) (by simp (disch := omega) only [fI_sJ, fJ_sI, fI_ne, fJ_ne, gI_sI, gJ_sJ, Nat.reduceEqDiff, eq_self, and_true, true_and, and_false, false_and, and_self, if_true, if_false, reduceIte, Nat.succ_ne_zero]), rI_some, b55_29, if_neg (fd_ne hw).2, b55_36]
      · obtain ⟨u, eu⟩ : ∃ u, u = cutf (nI f) v := ⟨_, rfl⟩
        refine ⟨some (.int 1), sI h (23 + s) k u, sI (sI h (23 + s) k u) 30 (60 * s + k) u, ?_, ?_, ?_⟩
        · show Ev 25 0 [some (.ref 0), some (.int (nI s)), some (.int (nI f)), some (.int (nI k)), some (.int v), none, none] [] h = _
          rw [b25_0, r_sheetAt hs, rA_ref, b25_5S, r_isForm hf, rI_some, b25_16, if_pos (by decide), b25_22S _ _ _ _ _ _ _ (shp_s hs).1, e1, rI_some, b25_29S, if_pos rfl, b25_43S _ _ _ _ _ _ _ (shp_s hs).1, r_store hs q1 q2 q3, q5, ← eu, rV_some, b25_51]
        · show Ev 55 0 [some (.ref 27), some (.int (nI s)), some (.int (nI f)), some (.int (nI k)), some (.int v), none] [] (sI h (23 + s) k u) = _
          rw [b55_0, r_isSheet hs, rI_some, b55_4, if_neg (by decide), b55_7, in_yes (k := 2) (by omega) hf (A := 0) (B := 2) (by decide) (by decide), rI_some, b55_16, if_pos (by decide), b55_22, e2 _ (by simp (disch := omega) only [fI_sJ, fJ_sI, fI_ne, fJ_ne, gI_sI, gJ_sJ, Nat.reduceEqDiff, eq_self, and_true, true_and, and_false, false_and, and_self, if_true, if_false, reduceIte, Nat.succ_ne_zero]) (by simp (disch := omega) only [fI_sJ, fJ_sI, fI_ne, fJ_ne, gI_sI, gJ_sJ, Nat.reduceEqDiff, eq_self, and_true, true_and, and_false, false_and, and_self, if_true, if_false, reduceIte, Nat.succ_ne_zero]), rI_some, b55_29, if_pos rfl, b55_39, r_cut, rI_some, ← eu, ix60, b55_55, if_pos (gd240 hs (by omega)), cl_nI (by omega), b55_56]
        · refine inv_sheet i hs (zs_sI (zs_sI (zs_refl s h) (Or.inr (Or.inl rfl))) (Or.inr (Or.inr (Or.inr (Or.inr ⟨rfl, by omega, by omega⟩))))) (Or.inr ⟨l, f, q1, by omega, ?_, ?_, ?_, ?_, fun j hj => ?_⟩)
          · rw [fI_ne (by omega), fI_ne (by omega)]; exact q3
          · rw [fI_ne (by omega), fI_ne (by omega)]; exact q4
          · rw [fI_ne (by omega), fI_ne (by omega)]; exact q5
          · rw [fI_ne (by omega), fI_ne (by omega)]; exact q6
          · rw [up_sI, fI_ne (show 30 ≠ 23 + s by omega), fI_ne (show 23 + s ≠ 30 by omega), up_sI]
            unfold up
            by_cases hjk : j = k
            · rw [if_pos (by omega), if_pos hjk]
            · rw [if_neg (by omega), if_neg hjk]; exact q8 j hj
    · refine pr_of h i (r := some (.int (-2))) (h1 := h) (h2 := h) ?_ (sx_refl [] _) (by decide) ?_ (sx_refl [] _) (by decide)
      · show Ev 25 0 [some (.ref 0), some (.int (nI s)), some (.int y), some (.int z), some (.int v), none, none] [] h = _
        rw [b25_0, r_sheetAt hs, rA_ref, b25_5S, r_isForm_no hy, rI_some, b25_16, if_neg (by decide), b25_19]
      · show Ev 55 0 [some (.ref 27), some (.int (nI s)), some (.int y), some (.int z), some (.int v), none] [] h = _
        rw [b55_0, r_isSheet hs, rI_some, b55_4, if_neg (by decide), b55_7, in_no (k := 2) hy (A := 0) (B := 2) (by decide) (by decide), rI_some, b55_16, if_neg (by decide), b55_19]
  · refine pr_of h i (r := some (.int (-2))) (h1 := h) (h2 := h) ?_ (sx_refl [] _) (by decide) ?_ (sx_refl [] _) (by decide)
    · show Ev 25 0 [some (.ref 0), some (.int x), some (.int y), some (.int z), some (.int v), none, none] [] h = _
      rw [b25_0, r_sheetAt_no hx, rA_null, b25_5N, b25_19]
    · show Ev 55 0 [some (.ref 27), some (.int x), some (.int y), some (.int z), some (.int v), none] [] h = _
      rw [b55_0, r_isSheet_no hx, rI_some, b55_4, if_pos rfl, b55_19]
end SI
