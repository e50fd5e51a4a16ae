/-! Looking, kept sets, the walk, the talk. -/
section AL
variable {n sl ly ev per : Nat} {P Q K : Nat → Int32} {E : Nat → Int64} {h h' : mH}
theorem lk_c (c : HC h n sl P Q K E) {a b : Nat} (ha : a < n) (hb : b < n) {j : Nat} (hj : j ≤ 2) : ∃ h1, Rt 8 [.ref 0, .int (nI a), .int (nI b), .int (nI j)] h = some (some (.int (if j = 0 then (if bt (E b) a = true then 1 else 0) else nI (lkA n sl P Q K (alw n sl K a (decide (j = 2))) a b).1)), h1) ∧ Sx [1] h h1 := by
  have h40 := c.2.2.2.2.2.2.2.1
  have wf := c.2.2.2.2.2.2.2
  have hc2 := c2_yes hj
  obtain ⟨h1, e1, e2, e3, e4, e5⟩ := r_search c ha hb (decide (j = 2))
  refine ⟨h1, ?_, e2⟩
  show Ev 8 0 [some (.ref 0), some (.int (nI a)), some (.int (nI b)), some (.int (nI j))] [] h = _
  simp (disch := omega) only [b8_0, b8_8, b8_11, b8_19, e10, e01, em10, eq_self, lt0_nI, ge0_nI, cl_nI, le_nI, lt_nI, eq_nI, ne_m1, le40, lt40, gd_nI, nI_1, yle, nle, ylt, nlt, reduceIte, if_true, if_false, and_true, true_and, and_false, false_and, or_true, true_or, or_false, false_or, not_true_eq_false, not_false_eq_true, rI_some, rL_some, rV_some, rA_ref, rA_null, b01, b01', i01, lcmp0, lcmp_lt, lcmp_gt, om1, m1_lt0, c_in c ha, c_in c hb]
  rw [b8_22, if_neg hc2.1, b8_26, if_pos hc2.2, b8_34]
  have hm := lkA_met (sl := sl) wf ha hb
  have : j = 0 ∨ j = 1 ∨ j = 2 := by omega
  rcases this with rfl | rfl | rfl
  · rw [if_pos (show ¬ nI 0 = 2 by decide), b8_53, b8_54]
    have e1' : Rt 151 [.ref 8, .ref 1, .int (nI a), .int (nI b), .int 0] h = some (none, h1) := e1
    rw [e1', rV_some, b8_57, if_neg (show ¬ ¬ nI 0 = 0 by decide), b8_61, e4]
    simp only [show decide ((0 : Nat) = 2) = false from rfl, i01f, hm, if_true, b01]
    by_cases hq : bt (E b) a = true
    · simp only [hq, not_true_eq_false, if_true, if_false, b8_71, b8_76]
    · simp only [hq, not_false_eq_true, if_true, if_false, b8_75, b8_76, Bool.false_eq_true]
  · rw [if_pos (show ¬ nI 1 = 2 by decide), b8_53, b8_54]
    have e1' : Rt 151 [.ref 8, .ref 1, .int (nI a), .int (nI b), .int 0] h = some (none, h1) := e1
    rw [e1', rV_some, b8_57, if_pos (show ¬ nI 1 = 0 by decide), b8_77, e3]
    rfl
  · rw [if_neg (show ¬ ¬ nI 2 = 2 by decide), b8_49, b8_54]
    have e1' : Rt 151 [.ref 8, .ref 1, .int (nI a), .int (nI b), .int 1] h = some (none, h1) := e1
    rw [e1', rV_some, b8_57, if_pos (show ¬ nI 2 = 0 by decide), b8_77, e3]
    rfl
theorem lk_m (c : HM h n sl P Q K E) {a b : Nat} (ha : a < n) (hb : b < n) {j : Nat} (hj : j ≤ 2) : ∃ h1, Rt 78 [.ref 27, .int (nI a), .int (nI b), .int (nI j)] h = some (some (.int (if j = 0 then (if bt (E b) a = true then 1 else 0) else nI (lkA n sl P Q K (alw n sl K a (decide (j = 2))) a b).1)), h1) ∧ Sx [6] h h1 := by
  have h40 := c.2.2.2.2.2.2.1
  have wf := c.2.2.2.2.2.2
  have : j = 0 ∨ j = 1 ∨ j = 2 := by omega
  rcases this with rfl | rfl | rfl
  · refine ⟨h, ?_, sx_refl _ _⟩
    show Ev 78 0 [some (.ref 27), some (.int (nI a)), some (.int (nI b)), some (.int (nI 0))] [] h = _
    rw [b78_0, if_neg (show ¬ ¬ nI 0 = 0 by decide)]
    by_cases hq : bt (E b) a = true
    · simp (disch := omega) only [b78_4, b78_9, b78_13, b78_16, b78_44, e10, e01, em10, eq_self, lt0_nI, ge0_nI, cl_nI, le_nI, lt_nI, eq_nI, ne_m1, le40, lt40, gd_nI, nI_1, yle, nle, ylt, nlt, reduceIte, if_true, if_false, and_true, true_and, and_false, false_and, or_true, true_or, or_false, false_or, not_true_eq_false, not_false_eq_true, rI_some, rL_some, rV_some, rA_ref, rA_null, b01, b01', i01, lcmp0, lcmp_lt, lcmp_gt, om1, m1_lt0, m_reach c hb, r_mholds, hq]
    · simp (disch := omega) only [b78_4, b78_9, b78_13, b78_20, b78_44, e10, e01, em10, eq_self, lt0_nI, ge0_nI, cl_nI, le_nI, lt_nI, eq_nI, ne_m1, le40, lt40, gd_nI, nI_1, yle, nle, ylt, nlt, reduceIte, if_true, if_false, and_true, true_and, and_false, false_and, or_true, true_or, or_false, false_or, not_true_eq_false, not_false_eq_true, rI_some, rL_some, rV_some, rA_ref, rA_null, b01, b01', i01, lcmp0, lcmp_lt, lcmp_gt, om1, m1_lt0, m_reach c hb, r_mholds, hq, Bool.false_eq_true]
  · obtain ⟨h1, e1, e2, _⟩ := r_looks c ha hb (lst := gen sl K a) (al := alw n sl K a false) (fun j hj => alw_al wf j hj)
    refine ⟨h1, ?_, e2⟩
    show Ev 78 0 [some (.ref 27), some (.int (nI a)), some (.int (nI b)), some (.int (nI 1))] [] h = _
    rw [b78_0, if_pos (show ¬ nI 1 = 0 by decide), b78_24, if_neg (show ¬ ¬ nI 1 = 1 by decide), b78_32, m_gen c ha, rI_some, b78_37, b78_41, e1, rI_some, b78_44]
    rfl
  · obtain ⟨h1, e1, e2, _⟩ := r_looks c ha hb (lst := 0) (al := alw n sl K a true) (fun j hj => alw_pl wf j hj)
    refine ⟨h1, ?_, e2⟩
    show Ev 78 0 [some (.ref 27), some (.int (nI a)), some (.int (nI b)), some (.int (nI 2))] [] h = _
    rw [b78_0, if_pos (show ¬ nI 2 = 0 by decide), b78_24, if_pos (show ¬ nI 2 = 1 by decide), b78_40, b78_41, e1, rI_some, b78_44]
    rfl
theorem p_look (x y z : Int32) : Pr 8 79 [.int x, .int y, .int z] := by
  intro h i
  have i' := i
  obtain ⟨n, sl, ly, ev, per, P, Q, K, E, c, m, _⟩ := i'
  have h40 := c.2.2.2.2.2.2.2.1
  rcases rng h40 x with ⟨a, ha, rfl⟩ | ⟨g1, g2⟩
  · rcases rng h40 y with ⟨b, hb, rfl⟩ | ⟨g1, g2⟩
    · rcases rng_in z (k := 2) (by omega) with ⟨j, hj, rfl⟩ | hz
      · obtain ⟨h1, e1, e2⟩ := lk_c c ha hb hj
        have m1 := hm_sx m e2 (by decide)
        obtain ⟨h2, f1, f2⟩ := lk_m m1 ha hb hj
        refine pr_of h i e1 e2 (by decide) (h2 := h2) ?_ f2 (by decide)
        show Ev 79 0 [some (.ref 27), some (.int (nI a)), some (.int (nI b)), some (.int (nI j))] [] h1 = _
        simp (disch := omega) only [b79_0, b79_5, b79_8, b79_13, b79_16, b79_25, b79_28, b79_35, b79_40, e10, e01, em10, eq_self, lt0_nI, ge0_nI, cl_nI, le_nI, lt_nI, eq_nI, ne_m1, le40, lt40, gd_nI, nI_1, yle, nle, ylt, nlt, reduceIte, if_true, if_false, and_true, true_and, and_false, false_and, or_true, true_or, or_false, false_or, not_true_eq_false, not_false_eq_true, rI_some, rL_some, rV_some, rA_ref, rA_null, b01, b01', i01, lcmp0, lcmp_lt, lcmp_gt, om1, m1_lt0, m_in m1 ha, m_in m1 hb, in_yes (k := 2) (by omega) hj (A := 0) (B := 2) (by decide) (by decide), f1]
      · refine pr_of h i (r := some (.int (-2))) (h1 := h) (h2 := h) ?_ (sx_refl [] _) (by decide) ?_ (sx_refl [] _) (by decide)
        · show Ev 8 0 [some (.ref 0), some (.int (nI a)), some (.int (nI b)), some (.int z)] [] h = _
          simp (disch := omega) only [b8_0, b8_8, b8_11, b8_19, e10, e01, em10, eq_self, lt0_nI, ge0_nI, cl_nI, le_nI, lt_nI, eq_nI, ne_m1, le40, lt40, gd_nI, nI_1, yle, nle, ylt, nlt, reduceIte, if_true, if_false, and_true, true_and, and_false, false_and, or_true, true_or, or_false, false_or, not_true_eq_false, not_false_eq_true, rI_some, rL_some, rV_some, rA_ref, rA_null, b01, b01', i01, lcmp0, lcmp_lt, lcmp_gt, om1, m1_lt0, c_in c ha, c_in c hb]
          rw [b8_22]
          by_cases h0 : z < 0
          · rw [if_pos h0, b8_31]
          · rw [if_neg h0, b8_26, if_neg (show ¬ z ≤ (2 : Int32) from c2_no hz h0), b8_31]
        · show Ev 79 0 [some (.ref 27), some (.int (nI a)), some (.int (nI b)), some (.int z)] [] h = _
          simp (disch := omega) only [b79_0, b79_5, b79_8, b79_13, b79_16, b79_25, b79_38, b79_40, e10, e01, em10, eq_self, lt0_nI, ge0_nI, cl_nI, le_nI, lt_nI, eq_nI, ne_m1, le40, lt40, gd_nI, nI_1, yle, nle, ylt, nlt, reduceIte, if_true, if_false, and_true, true_and, and_false, false_and, or_true, true_or, or_false, false_or, not_true_eq_false, not_false_eq_true, rI_some, rL_some, rV_some, rA_ref, rA_null, b01, b01', i01, lcmp0, lcmp_lt, lcmp_gt, om1, m1_lt0, m_in m ha, m_in m hb, in_no (k := 2) hz (A := 0) (B := 2) (by decide) (by decide)]
    · refine pr_of h i (r := some (.int (-2))) (h1 := h) (h2 := h) ?_ (sx_refl [] _) (by decide) ?_ (sx_refl [] _) (by decide)
      · show Ev 8 0 [some (.ref 0), some (.int (nI a)), some (.int y), some (.int z)] [] h = _
        simp (disch := omega) only [b8_0, b8_8, b8_11, b8_19, b8_31, e10, e01, em10, eq_self, lt0_nI, ge0_nI, cl_nI, le_nI, lt_nI, eq_nI, ne_m1, le40, lt40, gd_nI, nI_1, yle, nle, ylt, nlt, reduceIte, if_true, if_false, and_true, true_and, and_false, false_and, or_true, true_or, or_false, false_or, not_true_eq_false, not_false_eq_true, rI_some, rL_some, rV_some, rA_ref, rA_null, b01, b01', i01, lcmp0, lcmp_lt, lcmp_gt, om1, m1_lt0, c_in c ha, g1 _ _ _ _ _ _ c]
      · show Ev 79 0 [some (.ref 27), some (.int (nI a)), some (.int y), some (.int z)] [] h = _
        simp (disch := omega) only [b79_0, b79_5, b79_8, b79_13, b79_38, b79_40, e10, e01, em10, eq_self, lt0_nI, ge0_nI, cl_nI, le_nI, lt_nI, eq_nI, ne_m1, le40, lt40, gd_nI, nI_1, yle, nle, ylt, nlt, reduceIte, if_true, if_false, and_true, true_and, and_false, false_and, or_true, true_or, or_false, false_or, not_true_eq_false, not_false_eq_true, rI_some, rL_some, rV_some, rA_ref, rA_null, b01, b01', i01, lcmp0, lcmp_lt, lcmp_gt, om1, m1_lt0, m_in m ha, g2 _ _ _ _ _ _ m]
  · refine pr_of h i (r := some (.int (-2))) (h1 := h) (h2 := h) ?_ (sx_refl [] _) (by decide) ?_ (sx_refl [] _) (by decide)
    · show Ev 8 0 [some (.ref 0), some (.int x), some (.int y), some (.int z)] [] h = _
      simp (disch := omega) only [b8_0, b8_8, b8_31, e10, e01, em10, eq_self, lt0_nI, ge0_nI, cl_nI, le_nI, lt_nI, eq_nI, ne_m1, le40, lt40, gd_nI, nI_1, yle, nle, ylt, nlt, reduceIte, if_true, if_false, and_true, true_and, and_false, false_and, or_true, true_or, or_false, false_or, not_true_eq_false, not_false_eq_true, rI_some, rL_some, rV_some, rA_ref, rA_null, b01, b01', i01, lcmp0, lcmp_lt, lcmp_gt, om1, m1_lt0, g1 _ _ _ _ _ _ c]
    · show Ev 79 0 [some (.ref 27), some (.int x), some (.int y), some (.int z)] [] h = _
      simp (disch := omega) only [b79_0, b79_5, b79_38, b79_40, e10, e01, em10, eq_self, lt0_nI, ge0_nI, cl_nI, le_nI, lt_nI, eq_nI, ne_m1, le40, lt40, gd_nI, nI_1, yle, nle, ylt, nlt, reduceIte, if_true, if_false, and_true, true_and, and_false, false_and, or_true, true_or, or_false, false_or, not_true_eq_false, not_false_eq_true, rI_some, rL_some, rV_some, rA_ref, rA_null, b01, b01', i01, lcmp0, lcmp_lt, lcmp_gt, om1, m1_lt0, g2 _ _ _ _ _ _ m]
/-- what of a kept set -/
def kpB (ev : Nat) (E : Nat → Int64) (a : Nat) (x : Int32) : Int32 := if kp ev a = true then (if x = 0 then rtF ev (E a) a else if x = 1 then nI (ct (bey ev E a) 40) else nI (rts ev E 40 (rtF ev (E a) a))) else -3
theorem kp_c (c : HC h n sl P Q K E) (he : gI h 14 0 = nI ev) (h1 : 1 ≤ ev) (h2 : ev ≤ 10) {a : Nat} (ha : a < n) {j : Nat} (hj : j ≤ 2) : Rt 13 [.ref 0, .int (nI a), .int (nI j)] h = some (some (.int (kpB ev E a (nI j))), h) := by
  have h40 := c.2.2.2.2.2.2.2.1
  have hc2 := c2_yes hj
  show Ev 13 0 [some (.ref 0), some (.int (nI a)), some (.int (nI j))] [] h = _
  simp (disch := omega) only [b13_0, b13_8, e10, e01, em10, eq_self, lt0_nI, ge0_nI, cl_nI, le_nI, lt_nI, eq_nI, ne_m1, le40, lt40, gd_nI, nI_1, yle, nle, ylt, nlt, reduceIte, if_true, if_false, and_true, true_and, and_false, false_and, or_true, true_or, or_false, false_or, not_true_eq_false, not_false_eq_true, rI_some, rL_some, rV_some, rA_ref, rA_null, b01, b01', i01, lcmp0, lcmp_lt, lcmp_gt, om1, m1_lt0, c_in c ha]
  rw [b13_11, if_neg hc2.1, b13_15, if_pos hc2.2, b13_23, r_isKept he h1 h2 (by omega), rI_some, b13_31, kpB]
  by_cases hk : kp ev a = true
  · rw [hk, i01_t, if_pos (show ¬ (1 : Int32) = 0 by decide), if_pos rfl, b13_37]
    by_cases x0 : nI j = 0
    · rw [if_pos x0, if_pos x0, b13_64, r_rootOf c he h1 h2 ha, rI_some, b13_76]
    · rw [if_neg x0, if_neg x0]
      by_cases x1 : nI j = 1
      · rw [if_pos x1, if_pos x1, b13_77, r_shareSize c he h1 h2 ha, rI_some, b13_89]
      · rw [if_neg x1, if_neg x1, b13_90, r_rootsBehind c he h1 h2 ha, rI_some, b13_102]
  · rw [Bool.eq_false_iff.mpr hk, i01_f, if_neg (show ¬ ¬ (0 : Int32) = 0 by decide), b13_34]
    simp
theorem kp_m (c : HM h n sl P Q K E) (he : gI h 27 13 = nI ev) (h1 : 1 ≤ ev) (h2 : ev ≤ 10) {a : Nat} (ha : a < n) (x : Int32) : Rt 93 [.ref 27, .int (nI a), .int x] h = some (some (.int (kpB ev E a x)), h) := by
  have h40 := c.2.2.2.2.2.2.1
  show Ev 93 0 [some (.ref 27), some (.int (nI a)), some (.int x)] [] h = _
  rw [b93_0, r_misKept he h1 h2 (by omega), rI_some, b93_5, kpB]
  by_cases hk : kp ev a = true
  · rw [hk, i01_t, if_pos (show ¬ (1 : Int32) = 0 by decide), if_pos rfl, b93_13]
    by_cases x0 : x = 0
    · rw [if_neg (fun q => q x0), if_pos x0, b93_17, r_mrootOf c he h1 h2 ha, rI_some, b93_22, b93_43]
    · rw [if_pos x0, if_neg x0, b93_25]
      by_cases x1 : x = 1
      · rw [if_neg (fun q => q x1), if_pos x1, b93_30, r_shareOf c he h1 h2 ha, rI_some, b93_35, b93_43]
      · rw [if_pos x1, if_neg x1, b93_38, r_rootsOf c he h1 h2 ha, rI_some, b93_43]
  · rw [Bool.eq_false_iff.mpr hk, i01_f, if_neg (show ¬ ¬ (0 : Int32) = 0 by decide), b93_8, b93_43]
    simp
theorem p_kept (x y : Int32) : Pr 13 94 [.int x, .int y] := by
  intro h i
  have i' := i
  obtain ⟨n, sl, ly, ev, per, P, Q, K, E, c, m, z⟩ := i'
  obtain ⟨_, _, _, _, _, x6, x7, x8, x9, -⟩ := z
  have h40 := c.2.2.2.2.2.2.2.1
  rcases rng h40 x with ⟨a, ha, rfl⟩ | ⟨g1, g2⟩
  · rcases rng_in y (k := 2) (by omega) with ⟨j, hj, rfl⟩ | hy
    · refine pr_of h i (kp_c c x6 x8 x9 ha hj) (sx_refl [] _) (by decide) ?_ (sx_refl [] _) (by decide)
      show Ev 94 0 [some (.ref 27), some (.int (nI a)), some (.int (nI j))] [] h = _
      simp (disch := omega) only [b94_0, b94_5, b94_8, b94_17, b94_20, b94_26, b94_31, e10, e01, em10, eq_self, lt0_nI, ge0_nI, cl_nI, le_nI, lt_nI, eq_nI, ne_m1, le40, lt40, gd_nI, nI_1, yle, nle, ylt, nlt, reduceIte, if_true, if_false, and_true, true_and, and_false, false_and, or_true, true_or, or_false, false_or, not_true_eq_false, not_false_eq_true, rI_some, rL_some, rV_some, rA_ref, rA_null, b01, b01', i01, lcmp0, lcmp_lt, lcmp_gt, om1, m1_lt0, m_in m ha, in_yes (k := 2) (by omega) hj (A := 0) (B := 2) (by decide) (by decide), kp_m m x7 x8 x9 ha]
    · refine pr_of h i (r := some (.int (-2))) (h1 := h) (h2 := h) ?_ (sx_refl [] _) (by decide) ?_ (sx_refl [] _) (by decide)
      · show Ev 13 0 [some (.ref 0), some (.int (nI a)), some (.int y)] [] h = _
        simp (disch := omega) only [b13_0, b13_8, e10, e01, em10, eq_self, lt0_nI, ge0_nI, cl_nI, le_nI, lt_nI, eq_nI, ne_m1, le40, lt40, gd_nI, nI_1, yle, nle, ylt, nlt, reduceIte, if_true, if_false, and_true, true_and, and_false, false_and, or_true, true_or, or_false, false_or, not_true_eq_false, not_false_eq_true, rI_some, rL_some, rV_some, rA_ref, rA_null, b01, b01', i01, lcmp0, lcmp_lt, lcmp_gt, om1, m1_lt0, c_in c ha]
        rw [b13_11]
        by_cases h0 : y < 0
        · rw [if_pos h0, b13_20]
        · rw [if_neg h0, b13_15, if_neg (show ¬ y ≤ (2 : Int32) from c2_no hy h0), b13_20]
      · show Ev 94 0 [some (.ref 27), some (.int (nI a)), some (.int y)] [] h = _
        simp (disch := omega) only [b94_0, b94_5, b94_8, b94_17, b94_29, b94_31, e10, e01, em10, eq_self, lt0_nI, ge0_nI, cl_nI, le_nI, lt_nI, eq_nI, ne_m1, le40, lt40, gd_nI, nI_1, yle, nle, ylt, nlt, reduceIte, if_true, if_false, and_true, true_and, and_false, false_and, or_true, true_or, or_false, false_or, not_true_eq_false, not_false_eq_true, rI_some, rL_some, rV_some, rA_ref, rA_null, b01, b01', i01, lcmp0, lcmp_lt, lcmp_gt, om1, m1_lt0, m_in m ha, in_no (k := 2) hy (A := 0) (B := 2) (by decide) (by decide)]
  · refine pr_of h i (r := some (.int (-2))) (h1 := h) (h2 := h) ?_ (sx_refl [] _) (by decide) ?_ (sx_refl [] _) (by decide)
    · show Ev 13 0 [some (.ref 0), some (.int x), some (.int y)] [] h = _
      simp (disch := omega) only [b13_0, b13_8, b13_20, e10, e01, em10, eq_self, lt0_nI, ge0_nI, cl_nI, le_nI, lt_nI, eq_nI, ne_m1, le40, lt40, gd_nI, nI_1, yle, nle, ylt, nlt, reduceIte, if_true, if_false, and_true, true_and, and_false, false_and, or_true, true_or, or_false, false_or, not_true_eq_false, not_false_eq_true, rI_some, rL_some, rV_some, rA_ref, rA_null, b01, b01', i01, lcmp0, lcmp_lt, lcmp_gt, om1, m1_lt0, g1 _ _ _ _ _ _ c]
    · show Ev 94 0 [some (.ref 27), some (.int x), some (.int y)] [] h = _
      simp (disch := omega) only [b94_0, b94_5, b94_29, b94_31, e10, e01, em10, eq_self, lt0_nI, ge0_nI, cl_nI, le_nI, lt_nI, eq_nI, ne_m1, le40, lt40, gd_nI, nI_1, yle, nle, ylt, nlt, reduceIte, if_true, if_false, and_true, true_and, and_false, false_and, or_true, true_or, or_false, false_or, not_true_eq_false, not_false_eq_true, rI_some, rL_some, rV_some, rA_ref, rA_null, b01, b01', i01, lcmp0, lcmp_lt, lcmp_gt, om1, m1_lt0, g2 _ _ _ _ _ _ m]
end AL
