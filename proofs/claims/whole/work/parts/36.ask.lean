/-! The other questions. -/
section AK
variable {n sl ly ev per : Nat} {P Q K : Nat → Int32} {E : Nat → Int64} {h h' : mH}
theorem orI_ob (T : Nat → Int32) {c : Nat} (hc : c < 40) : ∀ n, orI T (ob c) n = if c < n then T c else 0
  | 0 => by simp [orI]
  | n + 1 => by
    have z0 : ∀ x : Int32, 0 ||| x = x := fun x => by simp
    rw [orI, orI_ob T hc n, bt_ob (by omega)]
    by_cases h1 : n = c
    · subst h1; simp [z0]
    · by_cases h2 : c < n
      · simp [h1, h2, show c < n + 1 by omega]
      · simp [h1, h2, show ¬ c < n + 1 by omega]
theorem rng_in (x : Int32) {k : Nat} (hk : k < 1000) : (∃ j, j ≤ k ∧ x = nI j) ∨ (x < 0 ∨ nI k < x) := by
  rcases int_cases x with hx | ⟨j, hj, rfl⟩
  · exact Or.inr (Or.inl hx)
  · by_cases h1 : j ≤ k
    · exact Or.inl ⟨j, h1, rfl⟩
    · exact Or.inr (Or.inr (by rw [lt_nI (by omega) (by omega)]; omega))
theorem p_layer (x : Int32) : Pr 4 67 [.int x] := by
  intro h i
  have i' := i
  obtain ⟨n, sl, ly, ev, per, P, Q, K, E, c, m, y⟩ := i'
  have h40 := c.2.2.2.2.2.2.2.1
  have hsl := c.2.2.1
  obtain ⟨x1, x2, x3, x4, x5, -⟩ := y
  rcases rng_in x (k := 39) (by omega) with ⟨j, hj, rfl⟩ | hx
  · have hI : Rt 44 [.long (nI j).toInt64, .long 0, .long 39] h = some (some (.int 1), h) := by
      rw [r_inI (a := 0) (b := 39) (by decide) (by decide), if_neg]
      rintro (q | q)
      · rw [lt0_nI (by omega)] at q; exact q
      · have := lt_nI (a := 39) (b := j) (by omega) (by omega)
        rw [show nI 39 = 39 from rfl] at this
        rw [this] at q; omega
    by_cases hl : j < ly
    · refine pr_of h i (r := some (.int (gI h 7 j))) (h1 := h) (h2 := h) ?_ (sx_refl [] _) (by decide) ?_ (sx_refl [] _) (by decide)
      · have e : Rt 132 [.ref 1, .int (nI j)] h = some (some (.int (gI h 7 j)), h) := by
          show Ev 132 0 [some (.ref 1), some (.int (nI j))] [] h = _
          simp (disch := omega) only [b132_0, b132_4, b132_12, b132_18, b132_22, e10, e01, em10, eq_self, lt0_nI, ge0_nI, cl_nI, le_nI, lt_nI, eq_nI, ne_m1, le40, lt40, gd_nI, nI_1, yle, nle, ylt, nlt, reduceIte, if_true, if_false, and_true, true_and, and_false, false_and, or_true, true_or, or_false, false_or, not_true_eq_false, not_false_eq_true, rI_some, rL_some, rV_some, rA_ref, rA_null, b01, b01', i01, lcmp0, lcmp_lt, lcmp_gt, om1, m1_lt0, x3]
        show Ev 4 0 [some (.ref 0), some (.int (nI j))] [] h = _
        simp (disch := omega) only [b4_0, b4_4, b4_13, b4_21, e10, e01, em10, eq_self, lt0_nI, ge0_nI, cl_nI, le_nI, lt_nI, eq_nI, ne_m1, le40, lt40, gd_nI, nI_1, yle, nle, ylt, nlt, reduceIte, if_true, if_false, and_true, true_and, and_false, false_and, or_true, true_or, or_false, false_or, not_true_eq_false, not_false_eq_true, rI_some, rL_some, rV_some, rA_ref, rA_null, b01, b01', i01, lcmp0, lcmp_lt, lcmp_gt, om1, m1_lt0, e]
      · have e : Rt 66 [.ref 27, .int (nI j)] h = some (some (.int (gI h 7 j)), h) := by
          show Ev 66 0 [some (.ref 27), some (.int (nI j))] [] h = _
          simp (disch := omega) only [b66_0, b66_8, b66_14, b66_18, e10, e01, em10, eq_self, lt0_nI, ge0_nI, cl_nI, le_nI, lt_nI, eq_nI, ne_m1, le40, lt40, gd_nI, nI_1, yle, nle, ylt, nlt, reduceIte, if_true, if_false, and_true, true_and, and_false, false_and, or_true, true_or, or_false, false_or, not_true_eq_false, not_false_eq_true, rI_some, rL_some, rV_some, rA_ref, rA_null, b01, b01', i01, lcmp0, lcmp_lt, lcmp_gt, om1, m1_lt0, x4, x2]
        show Ev 67 0 [some (.ref 27), some (.int (nI j))] [] h = _
        simp (disch := omega) only [b67_0, b67_9, b67_12, b67_17, b67_22, e10, e01, em10, eq_self, lt0_nI, ge0_nI, cl_nI, le_nI, lt_nI, eq_nI, ne_m1, le40, lt40, gd_nI, nI_1, yle, nle, ylt, nlt, reduceIte, if_true, if_false, and_true, true_and, and_false, false_and, or_true, true_or, or_false, false_or, not_true_eq_false, not_false_eq_true, rI_some, rL_some, rV_some, rA_ref, rA_null, b01, b01', i01, lcmp0, lcmp_lt, lcmp_gt, om1, m1_lt0, hI, e]
    · refine pr_of h i (r := some (.int (-1))) (h1 := h) (h2 := h) ?_ (sx_refl [] _) (by decide) ?_ (sx_refl [] _) (by decide)
      · have e : Rt 132 [.ref 1, .int (nI j)] h = some (some (.int (-1)), h) := by
          show Ev 132 0 [some (.ref 1), some (.int (nI j))] [] h = _
          simp (disch := omega) only [b132_0, b132_4, b132_21, b132_22, e10, e01, em10, eq_self, lt0_nI, ge0_nI, cl_nI, le_nI, lt_nI, eq_nI, ne_m1, le40, lt40, gd_nI, nI_1, yle, nle, ylt, nlt, reduceIte, if_true, if_false, and_true, true_and, and_false, false_and, or_true, true_or, or_false, false_or, not_true_eq_false, not_false_eq_true, rI_some, rL_some, rV_some, rA_ref, rA_null, b01, b01', i01, lcmp0, lcmp_lt, lcmp_gt, om1, m1_lt0, x3]
        show Ev 4 0 [some (.ref 0), some (.int (nI j))] [] h = _
        simp (disch := omega) only [b4_0, b4_4, b4_13, b4_21, e10, e01, em10, eq_self, lt0_nI, ge0_nI, cl_nI, le_nI, lt_nI, eq_nI, ne_m1, le40, lt40, gd_nI, nI_1, yle, nle, ylt, nlt, reduceIte, if_true, if_false, and_true, true_and, and_false, false_and, or_true, true_or, or_false, false_or, not_true_eq_false, not_false_eq_true, rI_some, rL_some, rV_some, rA_ref, rA_null, b01, b01', i01, lcmp0, lcmp_lt, lcmp_gt, om1, m1_lt0, e]
      · have e : Rt 66 [.ref 27, .int (nI j)] h = some (some (.int (-1)), h) := by
          show Ev 66 0 [some (.ref 27), some (.int (nI j))] [] h = _
          simp (disch := omega) only [b66_0, b66_17, b66_18, e10, e01, em10, eq_self, lt0_nI, ge0_nI, cl_nI, le_nI, lt_nI, eq_nI, ne_m1, le40, lt40, gd_nI, nI_1, yle, nle, ylt, nlt, reduceIte, if_true, if_false, and_true, true_and, and_false, false_and, or_true, true_or, or_false, false_or, not_true_eq_false, not_false_eq_true, rI_some, rL_some, rV_some, rA_ref, rA_null, b01, b01', i01, lcmp0, lcmp_lt, lcmp_gt, om1, m1_lt0, x4]
        show Ev 67 0 [some (.ref 27), some (.int (nI j))] [] h = _
        simp (disch := omega) only [b67_0, b67_9, b67_12, b67_17, b67_22, e10, e01, em10, eq_self, lt0_nI, ge0_nI, cl_nI, le_nI, lt_nI, eq_nI, ne_m1, le40, lt40, gd_nI, nI_1, yle, nle, ylt, nlt, reduceIte, if_true, if_false, and_true, true_and, and_false, false_and, or_true, true_or, or_false, false_or, not_true_eq_false, not_false_eq_true, rI_some, rL_some, rV_some, rA_ref, rA_null, b01, b01', i01, lcmp0, lcmp_lt, lcmp_gt, om1, m1_lt0, hI, e]
  · have hI : Rt 44 [.long x.toInt64, .long 0, .long 39] h = some (some (.int 0), h) := by
      rw [r_inI (a := 0) (b := 39) (by decide) (by decide), if_pos (show x < 0 ∨ (39 : Int32) < x from hx)]
    refine pr_of h i (r := some (.int (-2))) (h1 := h) (h2 := h) ?_ (sx_refl [] _) (by decide) ?_ (sx_refl [] _) (by decide)
    · show Ev 4 0 [some (.ref 0), some (.int x)] [] h = _
      rw [b4_0]
      by_cases h0 : x < 0
      · rw [if_pos h0, b4_10]
      · rw [if_neg h0, b4_4, if_neg, b4_10]
        rcases hx with hx | hx
        · exact absurd hx h0
        · rcases int_cases x with q | ⟨j, hj, rfl⟩
          · exact absurd q h0
          · rw [lt_nI (by omega) (by omega)] at hx
            rw [lt40 (by omega)]; omega
    · show Ev 67 0 [some (.ref 27), some (.int x)] [] h = _
      simp (disch := omega) only [b67_0, b67_9, b67_20, b67_22, e10, e01, em10, eq_self, lt0_nI, ge0_nI, cl_nI, le_nI, lt_nI, eq_nI, ne_m1, le40, lt40, gd_nI, nI_1, yle, nle, ylt, nlt, reduceIte, if_true, if_false, and_true, true_and, and_false, false_and, or_true, true_or, or_false, false_or, not_true_eq_false, not_false_eq_true, rI_some, rL_some, rV_some, rA_ref, rA_null, b01, b01', i01, lcmp0, lcmp_lt, lcmp_gt, om1, m1_lt0, hI]
theorem in_yes {k j : Nat} (hk : k < 1000) (hj : j ≤ k) {A B : Int64} (hA : A = (0 : Int32).toInt64) (hB : B = (nI k).toInt64) (h : mH) : Rt 44 [.long (nI j).toInt64, .long A, .long B] h = some (some (.int 1), h) := by
  rw [r_inI hA hB, if_neg]
  rintro (q | q)
  · rw [lt0_nI (by omega)] at q; exact q
  · rw [lt_nI (by omega) (by omega)] at q; omega
theorem in_no {k : Nat} {x : Int32} (hx : x < 0 ∨ nI k < x) {A B : Int64} (hA : A = (0 : Int32).toInt64) (hB : B = (nI k).toInt64) (h : mH) : Rt 44 [.long x.toInt64, .long A, .long B] h = some (some (.int 0), h) := by
  rw [r_inI hA hB, if_pos hx]
theorem c2_yes {j : Nat} (hj : j ≤ 2) : ¬ nI j < 0 ∧ nI j ≤ (2 : Int32) := by
  have : j = 0 ∨ j = 1 ∨ j = 2 := by omega
  rcases this with rfl | rfl | rfl <;> decide
theorem c2_no {x : Int32} {k : Nat} (hx : x < 0 ∨ nI k < x) (h0 : ¬ x < 0) : ¬ x ≤ nI k := by
  rcases hx with hx | hx
  · exact absurd hx h0
  · exact fun q => absurd hx (Int32.not_lt.mpr q)
theorem j5 {j : Nat} (hj : j ≤ 5) : nI j = 0 ∨ nI j = 1 ∨ nI j = 2 ∨ nI j = 3 ∨ nI j = 4 ∨ nI j = 5 := by
  have : j = 0 ∨ j = 1 ∨ j = 2 ∨ j = 3 ∨ j = 4 ∨ j = 5 := by omega
  rcases this with rfl | rfl | rfl | rfl | rfl | rfl <;> decide
/-- what of a commit -/
def cmB (n sl : Nat) (P Q K T : Nat → Int32) (a : Nat) (x : Int32) : Int32 := if x = 0 then P a else if x = 1 then Q a else if x = 2 then K a else if x = 3 then gen sl K a else if x = 4 then T a else nI (chd P Q a n)
theorem cm_c (c : HC h n sl P Q K E) {a : Nat} (ha : a < n) {x : Int32} (hx : x = 0 ∨ x = 1 ∨ x = 2 ∨ x = 3 ∨ x = 4 ∨ x = 5) : Rt 6 [.ref 0, .int (nI a), .int x] h = some (some (.int (cmB n sl P Q K (gI h 4) a x)), h) := by
  have h40 := c.2.2.2.2.2.2.2.1
  show Ev 6 0 [some (.ref 0), some (.int (nI a)), some (.int x)] [] h = _
  simp (disch := omega) only [b6_0, b6_8, e10, e01, em10, eq_self, lt0_nI, ge0_nI, cl_nI, le_nI, lt_nI, eq_nI, ne_m1, le40, lt40, gd_nI, nI_1, yle, nle, ylt, nlt, reduceIte, if_true, if_false, and_true, true_and, and_false, false_and, or_true, true_or, or_false, false_or, not_true_eq_false, not_false_eq_true, rI_some, rL_some, rV_some, rA_ref, rA_null, b01, b01', i01, lcmp0, lcmp_lt, lcmp_gt, om1, m1_lt0, c_in c ha]
  have c' := c
  obtain ⟨w1, w2, w3, w4, w5, w6, w7, w8⟩ := c'
  rcases hx with rfl | rfl | rfl | rfl | rfl | rfl
  · show _ = some (some (Value.int (P a)), h)
    rw [b6_14, if_pos rfl, b6_52, r_firstParent w1 h40 ha, rI_some, b6_60, w4]
  · show _ = some (some (Value.int (Q a)), h)
    rw [b6_14, if_neg (by decide), if_pos rfl, b6_61, r_secondParent w1 h40 ha, rI_some, b6_69, w5]
  · show _ = some (some (Value.int (K a)), h)
    rw [b6_14, if_neg (by decide), if_neg (by decide), if_pos rfl, b6_70, r_rankOf w1 h40 ha, rI_some, b6_78, w6]
  · show _ = some (some (Value.int (gen sl K a)), h)
    rw [b6_14, if_neg (by decide), if_neg (by decide), if_neg (by decide), if_pos rfl, b6_79, c_gen c ha, rI_some, b6_87]
  · show _ = some (some (Value.int (gI h 4 a)), h)
    rw [b6_14, if_neg (by decide), if_neg (by decide), if_neg (by decide), if_neg (by decide), if_pos rfl, b6_88, c_bit c ha, rL_some, b6_96, r_thingsOf w1 h40, rI_some, b6_99, orI_ob _ (by omega), if_pos ha]
  · show _ = some (some (Value.int (nI (chd P Q a n))), h)
    rw [b6_14, if_neg (by decide), if_neg (by decide), if_neg (by decide), if_neg (by decide), if_neg (by decide), if_pos rfl, b6_100, r_childrenOf w1 h40 (fun e he => by rw [w4, w5]; exact ⟨(w8.2 e he).1, (w8.2 e he).2.1⟩) ha, rI_some, b6_108, w4, w5]
theorem cm_m (c : HM h n sl P Q K E) {a : Nat} (ha : a < n) {x : Int32} (hx : x = 0 ∨ x = 1 ∨ x = 2 ∨ x = 3 ∨ x = 4 ∨ x = 5) : Rt 71 [.ref 27, .int (nI a), .int x] h = some (some (.int (cmB n sl P Q K (gI h 35) a x)), h) := by
  have h40 := c.2.2.2.2.2.2.1
  show Ev 71 0 [some (.ref 27), some (.int (nI a)), some (.int x)] [] h = _
  have c' := c
  obtain ⟨w1, w2, w3, w4, w5, w6, w8⟩ := c'
  rw [b71_0]
  rcases hx with rfl | rfl | rfl | rfl | rfl | rfl
  · show _ = some (some (Value.int (P a)), h)
    rw [if_pos rfl]
    simp (disch := omega) only [b71_36, b71_42, e10, e01, em10, eq_self, lt0_nI, ge0_nI, cl_nI, le_nI, lt_nI, eq_nI, ne_m1, le40, lt40, gd_nI, nI_1, yle, nle, ylt, nlt, reduceIte, if_true, if_false, and_true, true_and, and_false, false_and, or_true, true_or, or_false, false_or, not_true_eq_false, not_false_eq_true, rI_some, rL_some, rV_some, rA_ref, rA_null, b01, b01', i01, lcmp0, lcmp_lt, lcmp_gt, om1, m1_lt0, w4]
  · show _ = some (some (Value.int (Q a)), h)
    rw [if_neg (by decide), if_pos rfl]
    simp (disch := omega) only [b71_43, b71_49, e10, e01, em10, eq_self, lt0_nI, ge0_nI, cl_nI, le_nI, lt_nI, eq_nI, ne_m1, le40, lt40, gd_nI, nI_1, yle, nle, ylt, nlt, reduceIte, if_true, if_false, and_true, true_and, and_false, false_and, or_true, true_or, or_false, false_or, not_true_eq_false, not_false_eq_true, rI_some, rL_some, rV_some, rA_ref, rA_null, b01, b01', i01, lcmp0, lcmp_lt, lcmp_gt, om1, m1_lt0, w5]
  · show _ = some (some (Value.int (K a)), h)
    rw [if_neg (by decide), if_neg (by decide), if_pos rfl]
    simp (disch := omega) only [b71_50, b71_56, e10, e01, em10, eq_self, lt0_nI, ge0_nI, cl_nI, le_nI, lt_nI, eq_nI, ne_m1, le40, lt40, gd_nI, nI_1, yle, nle, ylt, nlt, reduceIte, if_true, if_false, and_true, true_and, and_false, false_and, or_true, true_or, or_false, false_or, not_true_eq_false, not_false_eq_true, rI_some, rL_some, rV_some, rA_ref, rA_null, b01, b01', i01, lcmp0, lcmp_lt, lcmp_gt, om1, m1_lt0, w6]
  · show _ = some (some (Value.int (gen sl K a)), h)
    rw [if_neg (by decide), if_neg (by decide), if_neg (by decide), if_pos rfl]
    simp (disch := omega) only [b71_57, b71_62, e10, e01, em10, eq_self, lt0_nI, ge0_nI, cl_nI, le_nI, lt_nI, eq_nI, ne_m1, le40, lt40, gd_nI, nI_1, yle, nle, ylt, nlt, reduceIte, if_true, if_false, and_true, true_and, and_false, false_and, or_true, true_or, or_false, false_or, not_true_eq_false, not_false_eq_true, rI_some, rL_some, rV_some, rA_ref, rA_null, b01, b01', i01, lcmp0, lcmp_lt, lcmp_gt, om1, m1_lt0, m_gen c ha]
  · show _ = some (some (Value.int (gI h 35 a)), h)
    rw [if_neg (by decide), if_neg (by decide), if_neg (by decide), if_neg (by decide), if_pos rfl]
    simp (disch := omega) only [b71_63, b71_69, e10, e01, em10, eq_self, lt0_nI, ge0_nI, cl_nI, le_nI, lt_nI, eq_nI, ne_m1, le40, lt40, gd_nI, nI_1, yle, nle, ylt, nlt, reduceIte, if_true, if_false, and_true, true_and, and_false, false_and, or_true, true_or, or_false, false_or, not_true_eq_false, not_false_eq_true, rI_some, rL_some, rV_some, rA_ref, rA_null, b01, b01', i01, lcmp0, lcmp_lt, lcmp_gt, om1, m1_lt0]
  · show _ = some (some (Value.int (nI (chd P Q a n))), h)
    rw [if_neg (by decide), if_neg (by decide), if_neg (by decide), if_neg (by decide), if_neg (by decide)]
    simp (disch := omega) only [b71_70, b71_75, e10, e01, em10, eq_self, lt0_nI, ge0_nI, cl_nI, le_nI, lt_nI, eq_nI, ne_m1, le40, lt40, gd_nI, nI_1, yle, nle, ylt, nlt, reduceIte, if_true, if_false, and_true, true_and, and_false, false_and, or_true, true_or, or_false, false_or, not_true_eq_false, not_false_eq_true, rI_some, rL_some, rV_some, rA_ref, rA_null, b01, b01', i01, lcmp0, lcmp_lt, lcmp_gt, om1, m1_lt0, r_children w1 h40, w4, w5]
theorem p_commit (x y : Int32) : Pr 6 72 [.int x, .int y] := by
  intro h i
  have i' := i
  obtain ⟨n, sl, ly, ev, per, P, Q, K, E, c, m, z⟩ := i'
  have h40 := c.2.2.2.2.2.2.2.1
  rcases rng h40 x with ⟨a, ha, rfl⟩ | ⟨g1, g2⟩
  · rcases rng_in y (k := 5) (by omega) with ⟨j, hj, rfl⟩ | hy
    · refine pr_of h i (cm_c c ha (j5 hj)) (sx_refl [] _) (by decide) ?_ (sx_refl [] _) (by decide)
      have e := cm_m m ha (j5 hj)
      rw [z.1] at e
      show Ev 72 0 [some (.ref 27), some (.int (nI a)), some (.int (nI j))] [] h = _
      simp (disch := omega) only [b72_0, b72_5, b72_8, b72_17, b72_20, b72_26, b72_31, e10, e01, em10, eq_self, lt0_nI, ge0_nI, cl_nI, le_nI, lt_nI, eq_nI, ne_m1, le40, lt40, gd_nI, nI_1, yle, nle, ylt, nlt, reduceIte, if_true, if_false, and_true, true_and, and_false, false_and, or_true, true_or, or_false, false_or, not_true_eq_false, not_false_eq_true, rI_some, rL_some, rV_some, rA_ref, rA_null, b01, b01', i01, lcmp0, lcmp_lt, lcmp_gt, om1, m1_lt0, m_in m ha, in_yes (k := 5) (by omega) hj (A := 0) (B := 5) (by decide) (by decide), e]
    · refine pr_of h i (r := some (.int (-2))) (h1 := h) (h2 := h) ?_ (sx_refl [] _) (by decide) ?_ (sx_refl [] _) (by decide)
      · show Ev 6 0 [some (.ref 0), some (.int (nI a)), some (.int y)] [] h = _
        have q : ∀ k, k ≤ 5 → ¬ y = nI k := by
          intro k hk hq
          subst hq
          rcases hy with hy | hy
          · rw [lt0_nI (by omega)] at hy; exact hy
          · rw [lt_nI (by omega) (by omega)] at hy; omega
        simp (disch := omega) only [b6_0, b6_8, e10, e01, em10, eq_self, lt0_nI, ge0_nI, cl_nI, le_nI, lt_nI, eq_nI, ne_m1, le40, lt40, gd_nI, nI_1, yle, nle, ylt, nlt, reduceIte, if_true, if_false, and_true, true_and, and_false, false_and, or_true, true_or, or_false, false_or, not_true_eq_false, not_false_eq_true, rI_some, rL_some, rV_some, rA_ref, rA_null, b01, b01', i01, lcmp0, lcmp_lt, lcmp_gt, om1, m1_lt0, c_in c ha]
        rw [b6_14, if_neg (show ¬ y = (0 : Int32) from q 0 (by omega)), if_neg (show ¬ y = (1 : Int32) from q 1 (by omega)), if_neg (show ¬ y = (2 : Int32) from q 2 (by omega)), if_neg (show ¬ y = (3 : Int32) from q 3 (by omega)), if_neg (show ¬ y = (4 : Int32) from q 4 (by omega)), if_neg (show ¬ y = (5 : Int32) from q 5 (by omega)), b6_109]
      · show Ev 72 0 [some (.ref 27), some (.int (nI a)), some (.int y)] [] h = _
        simp (disch := omega) only [b72_0, b72_5, b72_8, b72_17, b72_29, b72_31, e10, e01, em10, eq_self, lt0_nI, ge0_nI, cl_nI, le_nI, lt_nI, eq_nI, ne_m1, le40, lt40, gd_nI, nI_1, yle, nle, ylt, nlt, reduceIte, if_true, if_false, and_true, true_and, and_false, false_and, or_true, true_or, or_false, false_or, not_true_eq_false, not_false_eq_true, rI_some, rL_some, rV_some, rA_ref, rA_null, b01, b01', i01, lcmp0, lcmp_lt, lcmp_gt, om1, m1_lt0, m_in m ha, in_no (k := 5) hy (A := 0) (B := 5) (by decide) (by decide)]
  · refine pr_of h i (r := some (.int (-2))) (h1 := h) (h2 := h) ?_ (sx_refl [] _) (by decide) ?_ (sx_refl [] _) (by decide)
    · show Ev 6 0 [some (.ref 0), some (.int x), some (.int y)] [] h = _
      simp (disch := omega) only [b6_0, b6_8, b6_11, e10, e01, em10, eq_self, lt0_nI, ge0_nI, cl_nI, le_nI, lt_nI, eq_nI, ne_m1, le40, lt40, gd_nI, nI_1, yle, nle, ylt, nlt, reduceIte, if_true, if_false, and_true, true_and, and_false, false_and, or_true, true_or, or_false, false_or, not_true_eq_false, not_false_eq_true, rI_some, rL_some, rV_some, rA_ref, rA_null, b01, b01', i01, lcmp0, lcmp_lt, lcmp_gt, om1, m1_lt0, g1 _ _ _ _ _ _ c]
    · show Ev 72 0 [some (.ref 27), some (.int x), some (.int y)] [] h = _
      simp (disch := omega) only [b72_0, b72_5, b72_29, b72_31, e10, e01, em10, eq_self, lt0_nI, ge0_nI, cl_nI, le_nI, lt_nI, eq_nI, ne_m1, le40, lt40, gd_nI, nI_1, yle, nle, ylt, nlt, reduceIte, if_true, if_false, and_true, true_and, and_false, false_and, or_true, true_or, or_false, false_or, not_true_eq_false, not_false_eq_true, rI_some, rL_some, rV_some, rA_ref, rA_null, b01, b01', i01, lcmp0, lcmp_lt, lcmp_gt, om1, m1_lt0, g2 _ _ _ _ _ _ m]
end AK
