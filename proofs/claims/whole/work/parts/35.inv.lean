/-! What holds between two calls. -/
def Xs (h : mH) (s : Nat) : Prop := (gI h (19 + s) 2 = -1 ∧ gI h 28 s = -1) ∨ ∃ l f, l ≤ 60 ∧ f < 3 ∧ gI h (19 + s) 2 = nI l ∧ gI h 29 s = nI l ∧ gI h (19 + s) 1 = nI f ∧ gI h 28 s = nI f ∧ ∀ i, i < l → gI h 30 (60 * s + i) = gI h (23 + s) i
def Ix (h : mH) (n sl ly ev per : Nat) : Prop := gI h 35 = gI h 4 ∧ gI h 36 = gI h 7 ∧ gI h 1 8 = nI ly ∧ gI h 27 11 = nI ly ∧ ly ≤ sl ∧ gI h 14 0 = nI ev ∧ gI h 27 13 = nI ev ∧ 1 ≤ ev ∧ ev ≤ 10 ∧ gI h 15 2 = nI per ∧ gI h 27 14 = nI per ∧ 1 ≤ per ∧ per ≤ 8 ∧ gI h 27 15 = gI h 15 3 ∧ gJ h 27 16 = gJ h 15 0 ∧ gJ h 27 17 = gJ h 15 1 ∧ sub (gJ h 15 0) n ∧ sub (gJ h 15 1) n ∧ gI h 27 4 = gI h 0 7 ∧ ∀ s, s < 4 → Xs h s
def Inv (h : mH) : Prop := ∃ n sl ly ev per P Q K E, HC h n sl P Q K E ∧ HM h n sl P Q K E ∧ Ix h n sl ly ev per
section IV
variable {n sl ly ev per : Nat} {P Q K : Nat → Int32} {E : Nat → Int64} {R : List Nat} {h h' : mH}
theorem rg19 {s : Nat} (hs : s < 4) (j : Nat) : rg (19 + s) j = 0 ∧ rg (23 + s) j = 0 := by
  have : s = 0 ∨ s = 1 ∨ s = 2 ∨ s = 3 := by omega
  rcases this with rfl | rfl | rfl | rfl <;> simp [rg]
theorem xs_sx (a : Sx R h h') (hR : 0 ∉ R) {s : Nat} (hs : s < 4) (x : Xs h s) : Xs h' s := by
  have e1 : ∀ j, gI h' (19 + s) j = gI h (19 + s) j := fun j => (a (19 + s) j (by rw [(rg19 hs j).1]; exact hR)).1
  have e2 : ∀ j, gI h' (23 + s) j = gI h (23 + s) j := fun j => (a (23 + s) j (by rw [(rg19 hs j).2]; exact hR)).1
  have e3 : ∀ j, gI h' 28 j = gI h 28 j := fun j => (a 28 j (by rw [rg28]; exact hR)).1
  have e4 : ∀ j, gI h' 29 j = gI h 29 j := fun j => (a 29 j (by rw [rg29]; exact hR)).1
  have e5 : ∀ j, gI h' 30 j = gI h 30 j := fun j => (a 30 j (by rw [rg30]; exact hR)).1
  unfold Xs at x ⊢
  simp only [e1, e2, e3, e4, e5]
  exact x
theorem ix_sx (a : Sx R h h') (hR : 0 ∉ R) (x : Ix h n sl ly ev per) : Ix h' n sl ly ev per := by
  obtain ⟨x1, x2, x3, x4, x5, x6, x7, x8, x9, x10, x11, x12, x13, x14, x15, x16, x17, x18, x19, x20⟩ := x
  refine ⟨?_, ?_, ?_, ?_, x5, ?_, ?_, x8, x9, ?_, ?_, x12, x13, ?_, ?_, ?_, ?_, ?_, ?_, fun s hs => xs_sx a hR hs (x20 s hs)⟩
  · rw [sx_fI a (fun j => by rw [rg35]; exact hR), sx_fI a (fun j => by rw [rg4]; exact hR)]; exact x1
  · rw [sx_fI a (fun j => by rw [rg36]; exact hR), sx_fI a (fun j => by rw [rg7]; exact hR)]; exact x2
  · rw [(a 1 8 hR).1]; exact x3
  · rw [(a 27 11 hR).1]; exact x4
  · rw [(a 14 0 hR).1]; exact x6
  · rw [(a 27 13 hR).1]; exact x7
  · rw [(a 15 2 hR).1]; exact x10
  · rw [(a 27 14 hR).1]; exact x11
  · rw [(a 27 15 hR).1, (a 15 3 hR).1]; exact x14
  · rw [(a 27 16 hR).2, (a 15 0 hR).2]; exact x15
  · rw [(a 27 17 hR).2, (a 15 1 hR).2]; exact x16
  · rw [(a 15 0 hR).2]; exact x17
  · rw [(a 15 1 hR).2]; exact x18
  · rw [(a 27 4 hR).1, (a 0 7 hR).1]; exact x19
theorem inv_sx (i : Inv h) (a : Sx R h h') (hR : 0 ∉ R) : Inv h' := by
  obtain ⟨n, sl, ly, ev, per, P, Q, K, E, c, m, x⟩ := i
  exact ⟨n, sl, ly, ev, per, P, Q, K, E, hc_sx c a hR, hm_sx m a hR, ix_sx a hR x⟩
/-- both answer the same, and what holds still holds -/
def Pr (y z : Nat) (as : List Value) : Prop := ∀ h, Inv h → ∃ r h1 h2, Rt y (.ref 0 :: as) h = some (r, h1) ∧ Rt z (.ref 27 :: as) h1 = some (r, h2) ∧ Inv h2
/-- a commit, or none on either side -/
theorem rng (h40 : n ≤ 40) (x : Int32) : (∃ c, c < n ∧ x = nI c) ∨ (∀ h sl P Q K E, HC h n sl P Q K E → Rt 125 [.ref 1, .int x] h = some (some (.int 0), h)) ∧ (∀ h sl P Q K E, HM h n sl P Q K E → Rt 58 [.ref 27, .int x] h = some (some (.int 0), h)) := by
  rcases int_cases x with hx | ⟨c, hc, rfl⟩
  · exact Or.inr ⟨fun h sl P Q K E w => r_holds_no hx, fun h sl P Q K E w => r_isCommit_no w.1 h40 hx⟩
  · by_cases hn : c < n
    · exact Or.inl ⟨c, hn, rfl⟩
    · refine Or.inr ⟨fun h sl P Q K E w => ?_, fun h sl P Q K E w => ?_⟩
      · rw [c_holds w (by omega), if_neg hn]
      · rw [m_isC w (by omega), if_neg hn]
theorem c_in {c : Nat} (w : HC h n sl P Q K E) (hc : c < n) : Rt 125 [.ref 1, .int (nI c)] h = some (some (.int 1), h) := by
  have := w.2.2.2.2.2.2.2.1
  rw [c_holds w (by omega), if_pos hc]
theorem m_in {c : Nat} (w : HM h n sl P Q K E) (hc : c < n) : Rt 58 [.ref 27, .int (nI c)] h = some (some (.int 1), h) := by
  have := w.2.2.2.2.2.2.1
  rw [m_isC w (by omega), if_pos hc]
theorem r_inI {A B : Int64} {a b : Int32} (ha : A = a.toInt64) (hb : B = b.toInt64) (x : Int32) (h : mH) : Rt 44 [.long x.toInt64, .long A, .long B] h = some (some (.int (if x < a ∨ b < x then 0 else 1)), h) := by
  rw [r_in, ha, hb]
  simp only [w64_lt]
theorem r_no2 (h : mH) : Rt 45 [.int (-2)] h = some (some (.long (-9223372036854775806)), h) := by
  show Ev 45 0 [some (.int (-2))] [] h = _
  rw [b45_0]; rfl
theorem nlt_le (a b : Int32) : (¬ a < b) = (b ≤ a) := propext Int32.not_lt
/-- a question that changes nothing of either -/
theorem pr_of (h : mH) (i : Inv h) {y z : Nat} {as : List Value} {r : Option Value} {h1 h2 : mH} {R1 R2 : List Nat} (e1 : Rt y (.ref 0 :: as) h = some (r, h1)) (s1 : Sx R1 h h1) (n1 : 0 ∉ R1) (e2 : Rt z (.ref 27 :: as) h1 = some (r, h2)) (s2 : Sx R2 h1 h2) (n2 : 0 ∉ R2) : ∃ r h1 h2, Rt y (.ref 0 :: as) h = some (r, h1) ∧ Rt z (.ref 27 :: as) h1 = some (r, h2) ∧ Inv h2 := ⟨r, h1, h2, e1, e2, inv_sx (inv_sx i s1 n1) s2 n2⟩
theorem p_reach (x : Int32) : Pr 7 75 [.int x] := by
  intro h i
  have i' := i
  obtain ⟨n, sl, ly, ev, per, P, Q, K, E, c, m, _⟩ := i'
  have h40 := c.2.2.2.2.2.2.2.1
  rcases rng h40 x with ⟨a, ha, rfl⟩ | ⟨g1, g2⟩
  · refine pr_of h i (r := some (.long (E a))) (h1 := h) (h2 := h) ?_ (sx_refl [] _) (by decide) ?_ (sx_refl [] _) (by decide)
    · show Ev 7 0 [some (.ref 0), some (.int (nI a))] [] h = _
      simp (disch := omega) only [b7_0, b7_8, b7_11, b7_19, b7_25, e10, e01, em10, eq_self, lt0_nI, ge0_nI, cl_nI, le_nI, lt_nI, eq_nI, ne_m1, le40, lt40, gd_nI, nI_1, yle, nle, ylt, nlt, reduceIte, if_true, if_false, and_true, true_and, and_false, false_and, or_true, true_or, or_false, false_or, not_true_eq_false, not_false_eq_true, rI_some, rL_some, rV_some, rA_ref, rA_null, b01, b01', i01, lcmp0, lcmp_lt, lcmp_gt, om1, m1_lt0, c_in c ha, c_reach c ha]
    · show Ev 75 0 [some (.ref 27), some (.int (nI a))] [] h = _
      simp (disch := omega) only [b75_0, b75_5, b75_8, b75_13, b75_21, e10, e01, em10, eq_self, lt0_nI, ge0_nI, cl_nI, le_nI, lt_nI, eq_nI, ne_m1, le40, lt40, gd_nI, nI_1, yle, nle, ylt, nlt, reduceIte, if_true, if_false, and_true, true_and, and_false, false_and, or_true, true_or, or_false, false_or, not_true_eq_false, not_false_eq_true, rI_some, rL_some, rV_some, rA_ref, rA_null, b01, b01', i01, lcmp0, lcmp_lt, lcmp_gt, om1, m1_lt0, m_in m ha, m_reach m ha]
  · refine pr_of h i (r := some (.long (-9223372036854775806))) (h1 := h) (h2 := h) ?_ (sx_refl [] _) (by decide) ?_ (sx_refl [] _) (by decide)
    · show Ev 7 0 [some (.ref 0), some (.int x)] [] h = _
      simp (disch := omega) only [b7_0, b7_8, b7_22, b7_25, e10, e01, em10, eq_self, lt0_nI, ge0_nI, cl_nI, le_nI, lt_nI, eq_nI, ne_m1, le40, lt40, gd_nI, nI_1, yle, nle, ylt, nlt, reduceIte, if_true, if_false, and_true, true_and, and_false, false_and, or_true, true_or, or_false, false_or, not_true_eq_false, not_false_eq_true, rI_some, rL_some, rV_some, rA_ref, rA_null, b01, b01', i01, lcmp0, lcmp_lt, lcmp_gt, om1, m1_lt0, g1 _ _ _ _ _ _ c]
    · show Ev 75 0 [some (.ref 27), some (.int x)] [] h = _
      simp (disch := omega) only [b75_0, b75_5, b75_16, b75_21, e10, e01, em10, eq_self, lt0_nI, ge0_nI, cl_nI, le_nI, lt_nI, eq_nI, ne_m1, le40, lt40, gd_nI, nI_1, yle, nle, ylt, nlt, reduceIte, if_true, if_false, and_true, true_and, and_false, false_and, or_true, true_or, or_false, false_or, not_true_eq_false, not_false_eq_true, rI_some, rL_some, rV_some, rA_ref, rA_null, b01, b01', i01, lcmp0, lcmp_lt, lcmp_gt, om1, m1_lt0, g2 _ _ _ _ _ _ m, r_no2]
theorem p_bases (x y : Int32) : Pr 9 81 [.int x, .int y] := by
  intro h i
  have i' := i
  obtain ⟨n, sl, ly, ev, per, P, Q, K, E, c, m, _⟩ := i'
  have h40 := c.2.2.2.2.2.2.2.1
  rcases rng h40 x with ⟨a, ha, rfl⟩ | ⟨g1, g2⟩
  · rcases rng h40 y with ⟨b, hb, rfl⟩ | ⟨g1, g2⟩
    · obtain ⟨h1, e1, e2, e3, e4⟩ := r_paint c ha hb
      have m1 := hm_sx m e2 (by decide)
      obtain ⟨h2, f1, f2, f3⟩ := r_basesOf m1 ha hb
      refine pr_of h i (r := some (.long (ptA n sl P Q K a b).1)) (h1 := h1) (h2 := h2) ?_ e2 (by decide) ?_ f2 (by decide)
      · show Ev 9 0 [some (.ref 0), some (.int (nI a)), some (.int (nI b))] [] h = _
        simp (disch := omega) only [b9_0, b9_8, b9_11, b9_19, b9_26, b9_39, e10, e01, em10, eq_self, lt0_nI, ge0_nI, cl_nI, le_nI, lt_nI, eq_nI, ne_m1, le40, lt40, gd_nI, nI_1, yle, nle, ylt, nlt, reduceIte, if_true, if_false, and_true, true_and, and_false, false_and, or_true, true_or, or_false, false_or, not_true_eq_false, not_false_eq_true, rI_some, rL_some, rV_some, rA_ref, rA_null, b01, b01', i01, lcmp0, lcmp_lt, lcmp_gt, om1, m1_lt0, c_in c ha, c_in c hb, e1, e3]
      · show Ev 81 0 [some (.ref 27), some (.int (nI a)), some (.int (nI b))] [] h1 = _
        simp (disch := omega) only [b81_0, b81_5, b81_8, b81_13, b81_16, b81_22, b81_30, e10, e01, em10, eq_self, lt0_nI, ge0_nI, cl_nI, le_nI, lt_nI, eq_nI, ne_m1, le40, lt40, gd_nI, nI_1, yle, nle, ylt, nlt, reduceIte, if_true, if_false, and_true, true_and, and_false, false_and, or_true, true_or, or_false, false_or, not_true_eq_false, not_false_eq_true, rI_some, rL_some, rV_some, rA_ref, rA_null, b01, b01', i01, lcmp0, lcmp_lt, lcmp_gt, om1, m1_lt0, m_in m1 ha, m_in m1 hb, f1]
    · refine pr_of h i (r := some (.long (-9223372036854775806))) (h1 := h) (h2 := h) ?_ (sx_refl [] _) (by decide) ?_ (sx_refl [] _) (by decide)
      · show Ev 9 0 [some (.ref 0), some (.int (nI a)), some (.int y)] [] h = _
        simp (disch := omega) only [b9_0, b9_8, b9_11, b9_19, b9_22, e10, e01, em10, eq_self, lt0_nI, ge0_nI, cl_nI, le_nI, lt_nI, eq_nI, ne_m1, le40, lt40, gd_nI, nI_1, yle, nle, ylt, nlt, reduceIte, if_true, if_false, and_true, true_and, and_false, false_and, or_true, true_or, or_false, false_or, not_true_eq_false, not_false_eq_true, rI_some, rL_some, rV_some, rA_ref, rA_null, b01, b01', i01, lcmp0, lcmp_lt, lcmp_gt, om1, m1_lt0, c_in c ha, g1 _ _ _ _ _ _ c]
      · show Ev 81 0 [some (.ref 27), some (.int (nI a)), some (.int y)] [] h = _
        simp (disch := omega) only [b81_0, b81_5, b81_8, b81_13, b81_25, b81_30, e10, e01, em10, eq_self, lt0_nI, ge0_nI, cl_nI, le_nI, lt_nI, eq_nI, ne_m1, le40, lt40, gd_nI, nI_1, yle, nle, ylt, nlt, reduceIte, if_true, if_false, and_true, true_and, and_false, false_and, or_true, true_or, or_false, false_or, not_true_eq_false, not_false_eq_true, rI_some, rL_some, rV_some, rA_ref, rA_null, b01, b01', i01, lcmp0, lcmp_lt, lcmp_gt, om1, m1_lt0, m_in m ha, g2 _ _ _ _ _ _ m, r_no2]
  · refine pr_of h i (r := some (.long (-9223372036854775806))) (h1 := h) (h2 := h) ?_ (sx_refl [] _) (by decide) ?_ (sx_refl [] _) (by decide)
    · show Ev 9 0 [some (.ref 0), some (.int x), some (.int y)] [] h = _
      simp (disch := omega) only [b9_0, b9_8, b9_22, e10, e01, em10, eq_self, lt0_nI, ge0_nI, cl_nI, le_nI, lt_nI, eq_nI, ne_m1, le40, lt40, gd_nI, nI_1, yle, nle, ylt, nlt, reduceIte, if_true, if_false, and_true, true_and, and_false, false_and, or_true, true_or, or_false, false_or, not_true_eq_false, not_false_eq_true, rI_some, rL_some, rV_some, rA_ref, rA_null, b01, b01', i01, lcmp0, lcmp_lt, lcmp_gt, om1, m1_lt0, g1 _ _ _ _ _ _ c]
    · show Ev 81 0 [some (.ref 27), some (.int x), some (.int y)] [] h = _
      simp (disch := omega) only [b81_0, b81_5, b81_25, b81_30, e10, e01, em10, eq_self, lt0_nI, ge0_nI, cl_nI, le_nI, lt_nI, eq_nI, ne_m1, le40, lt40, gd_nI, nI_1, yle, nle, ylt, nlt, reduceIte, if_true, if_false, and_true, true_and, and_false, false_and, or_true, true_or, or_false, false_or, not_true_eq_false, not_false_eq_true, rI_some, rL_some, rV_some, rA_ref, rA_null, b01, b01', i01, lcmp0, lcmp_lt, lcmp_gt, om1, m1_lt0, g2 _ _ _ _ _ _ m, r_no2]
theorem p_paints (x y : Int32) : Pr 10 83 [.int x, .int y] := by
  intro h i
  have i' := i
  obtain ⟨n, sl, ly, ev, per, P, Q, K, E, c, m, _⟩ := i'
  have h40 := c.2.2.2.2.2.2.2.1
  rcases rng h40 x with ⟨a, ha, rfl⟩ | ⟨g1, g2⟩
  · rcases rng h40 y with ⟨b, hb, rfl⟩ | ⟨g1, g2⟩
    · obtain ⟨h1, e1, e2, e3, e4⟩ := r_paint c ha hb
      have m1 := hm_sx m e2 (by decide)
      obtain ⟨h2, f1, f2, f3⟩ := r_basesOf m1 ha hb
      have f4 : Rt 82 [.ref 27, .int (nI a), .int (nI b)] h1 = some (some (.int (nI (ptA n sl P Q K a b).2)), h2) := by
        show Ev 82 0 [some (.ref 27), some (.int (nI a)), some (.int (nI b))] [] h1 = _
        rw [b82_0, f1, rL_some, b82_6]
        simp only [b82_11, b82_18, b82_22, f3, ite_self]
      refine pr_of h i (r := some (.int (nI (ptA n sl P Q K a b).2))) (h1 := h1) (h2 := h2) ?_ e2 (by decide) ?_ f2 (by decide)
      · show Ev 10 0 [some (.ref 0), some (.int (nI a)), some (.int (nI b))] [] h = _
        simp (disch := omega) only [b10_0, b10_8, b10_11, b10_19, b10_25, b10_38, e10, e01, em10, eq_self, lt0_nI, ge0_nI, cl_nI, le_nI, lt_nI, eq_nI, ne_m1, le40, lt40, gd_nI, nI_1, yle, nle, ylt, nlt, reduceIte, if_true, if_false, and_true, true_and, and_false, false_and, or_true, true_or, or_false, false_or, not_true_eq_false, not_false_eq_true, rI_some, rL_some, rV_some, rA_ref, rA_null, b01, b01', i01, lcmp0, lcmp_lt, lcmp_gt, om1, m1_lt0, c_in c ha, c_in c hb, e1, e4]
      · show Ev 83 0 [some (.ref 27), some (.int (nI a)), some (.int (nI b))] [] h1 = _
        simp (disch := omega) only [b83_0, b83_5, b83_8, b83_13, b83_16, b83_22, b83_27, e10, e01, em10, eq_self, lt0_nI, ge0_nI, cl_nI, le_nI, lt_nI, eq_nI, ne_m1, le40, lt40, gd_nI, nI_1, yle, nle, ylt, nlt, reduceIte, if_true, if_false, and_true, true_and, and_false, false_and, or_true, true_or, or_false, false_or, not_true_eq_false, not_false_eq_true, rI_some, rL_some, rV_some, rA_ref, rA_null, b01, b01', i01, lcmp0, lcmp_lt, lcmp_gt, om1, m1_lt0, m_in m1 ha, m_in m1 hb, f4]
    · refine pr_of h i (r := some (.int (-2))) (h1 := h) (h2 := h) ?_ (sx_refl [] _) (by decide) ?_ (sx_refl [] _) (by decide)
      · show Ev 10 0 [some (.ref 0), some (.int (nI a)), some (.int y)] [] h = _
        simp (disch := omega) only [b10_0, b10_8, b10_11, b10_19, b10_22, e10, e01, em10, eq_self, lt0_nI, ge0_nI, cl_nI, le_nI, lt_nI, eq_nI, ne_m1, le40, lt40, gd_nI, nI_1, yle, nle, ylt, nlt, reduceIte, if_true, if_false, and_true, true_and, and_false, false_and, or_true, true_or, or_false, false_or, not_true_eq_false, not_false_eq_true, rI_some, rL_some, rV_some, rA_ref, rA_null, b01, b01', i01, lcmp0, lcmp_lt, lcmp_gt, om1, m1_lt0, c_in c ha, g1 _ _ _ _ _ _ c]
      · show Ev 83 0 [some (.ref 27), some (.int (nI a)), some (.int y)] [] h = _
        simp (disch := omega) only [b83_0, b83_5, b83_8, b83_13, b83_25, b83_27, e10, e01, em10, eq_self, lt0_nI, ge0_nI, cl_nI, le_nI, lt_nI, eq_nI, ne_m1, le40, lt40, gd_nI, nI_1, yle, nle, ylt, nlt, reduceIte, if_true, if_false, and_true, true_and, and_false, false_and, or_true, true_or, or_false, false_or, not_true_eq_false, not_false_eq_true, rI_some, rL_some, rV_some, rA_ref, rA_null, b01, b01', i01, lcmp0, lcmp_lt, lcmp_gt, om1, m1_lt0, m_in m ha, g2 _ _ _ _ _ _ m]
  · refine pr_of h i (r := some (.int (-2))) (h1 := h) (h2 := h) ?_ (sx_refl [] _) (by decide) ?_ (sx_refl [] _) (by decide)
    · show Ev 10 0 [some (.ref 0), some (.int x), some (.int y)] [] h = _
      simp (disch := omega) only [b10_0, b10_8, b10_22, e10, e01, em10, eq_self, lt0_nI, ge0_nI, cl_nI, le_nI, lt_nI, eq_nI, ne_m1, le40, lt40, gd_nI, nI_1, yle, nle, ylt, nlt, reduceIte, if_true, if_false, and_true, true_and, and_false, false_and, or_true, true_or, or_false, false_or, not_true_eq_false, not_false_eq_true, rI_some, rL_some, rV_some, rA_ref, rA_null, b01, b01', i01, lcmp0, lcmp_lt, lcmp_gt, om1, m1_lt0, g1 _ _ _ _ _ _ c]
    · show Ev 83 0 [some (.ref 27), some (.int x), some (.int y)] [] h = _
      simp (disch := omega) only [b83_0, b83_5, b83_25, b83_27, e10, e01, em10, eq_self, lt0_nI, ge0_nI, cl_nI, le_nI, lt_nI, eq_nI, ne_m1, le40, lt40, gd_nI, nI_1, yle, nle, ylt, nlt, reduceIte, if_true, if_false, and_true, true_and, and_false, false_and, or_true, true_or, or_false, false_or, not_true_eq_false, not_false_eq_true, rI_some, rL_some, rV_some, rA_ref, rA_null, b01, b01', i01, lcmp0, lcmp_lt, lcmp_gt, om1, m1_lt0, g2 _ _ _ _ _ _ m]
theorem p_ways (x y : Int32) : Pr 11 86 [.int x, .int y] := by
  intro h i
  have i' := i
  obtain ⟨n, sl, ly, ev, per, P, Q, K, E, c, m, _⟩ := i'
  have h40 := c.2.2.2.2.2.2.2.1
  rcases rng h40 x with ⟨a, ha, rfl⟩ | ⟨g1, g2⟩
  · rcases rng h40 y with ⟨b, hb, rfl⟩ | ⟨g1, g2⟩
    · obtain ⟨h1, e1, e2, e3, e4⟩ := r_trace c hb
      have m1 := hm_sx m e2 (by decide)
      obtain ⟨h2, f1, f2, f3, f4⟩ := r_goesDown m1 hb
      have f5 : Rt 85 [.ref 27, .int (nI a), .int (nI b)] h1 = some (some (.long ((dnA n P Q b).1 a)), h2) := by
        show Ev 85 0 [some (.ref 27), some (.int (nI a)), some (.int (nI b))] [] h1 = _
        simp (disch := omega) only [b85_0, b85_5, b85_11, e10, e01, em10, eq_self, lt0_nI, ge0_nI, cl_nI, le_nI, lt_nI, eq_nI, ne_m1, le40, lt40, gd_nI, nI_1, yle, nle, ylt, nlt, reduceIte, if_true, if_false, and_true, true_and, and_false, false_and, or_true, true_or, or_false, false_or, not_true_eq_false, not_false_eq_true, rI_some, rL_some, rV_some, rA_ref, rA_null, b01, b01', i01, lcmp0, lcmp_lt, lcmp_gt, om1, m1_lt0, f1, f3 a ha]
      refine pr_of h i (r := some (.long ((dnA n P Q b).1 a))) (h1 := h1) (h2 := h2) ?_ e2 (by decide) ?_ f2 (by decide)
      · show Ev 11 0 [some (.ref 0), some (.int (nI a)), some (.int (nI b))] [] h = _
        simp (disch := omega) only [b11_0, b11_8, b11_11, b11_19, b11_26, b11_38, b11_46, e10, e01, em10, eq_self, lt0_nI, ge0_nI, cl_nI, le_nI, lt_nI, eq_nI, ne_m1, le40, lt40, gd_nI, nI_1, yle, nle, ylt, nlt, reduceIte, if_true, if_false, and_true, true_and, and_false, false_and, or_true, true_or, or_false, false_or, not_true_eq_false, not_false_eq_true, rI_some, rL_some, rV_some, rA_ref, rA_null, b01, b01', i01, lcmp0, lcmp_lt, lcmp_gt, om1, m1_lt0, c_in c ha, c_in c hb, e1, r_waysTo, e3 a ha]
      · show Ev 86 0 [some (.ref 27), some (.int (nI a)), some (.int (nI b))] [] h1 = _
        simp (disch := omega) only [b86_0, b86_5, b86_8, b86_13, b86_16, b86_22, b86_30, e10, e01, em10, eq_self, lt0_nI, ge0_nI, cl_nI, le_nI, lt_nI, eq_nI, ne_m1, le40, lt40, gd_nI, nI_1, yle, nle, ylt, nlt, reduceIte, if_true, if_false, and_true, true_and, and_false, false_and, or_true, true_or, or_false, false_or, not_true_eq_false, not_false_eq_true, rI_some, rL_some, rV_some, rA_ref, rA_null, b01, b01', i01, lcmp0, lcmp_lt, lcmp_gt, om1, m1_lt0, m_in m1 ha, m_in m1 hb, f5]
    · refine pr_of h i (r := some (.long (-9223372036854775806))) (h1 := h) (h2 := h) ?_ (sx_refl [] _) (by decide) ?_ (sx_refl [] _) (by decide)
      · show Ev 11 0 [some (.ref 0), some (.int (nI a)), some (.int y)] [] h = _
        simp (disch := omega) only [b11_0, b11_8, b11_11, b11_19, b11_22, e10, e01, em10, eq_self, lt0_nI, ge0_nI, cl_nI, le_nI, lt_nI, eq_nI, ne_m1, le40, lt40, gd_nI, nI_1, yle, nle, ylt, nlt, reduceIte, if_true, if_false, and_true, true_and, and_false, false_and, or_true, true_or, or_false, false_or, not_true_eq_false, not_false_eq_true, rI_some, rL_some, rV_some, rA_ref, rA_null, b01, b01', i01, lcmp0, lcmp_lt, lcmp_gt, om1, m1_lt0, c_in c ha, g1 _ _ _ _ _ _ c]
      · show Ev 86 0 [some (.ref 27), some (.int (nI a)), some (.int y)] [] h = _
        simp (disch := omega) only [b86_0, b86_5, b86_8, b86_13, b86_25, b86_30, e10, e01, em10, eq_self, lt0_nI, ge0_nI, cl_nI, le_nI, lt_nI, eq_nI, ne_m1, le40, lt40, gd_nI, nI_1, yle, nle, ylt, nlt, reduceIte, if_true, if_false, and_true, true_and, and_false, false_and, or_true, true_or, or_false, false_or, not_true_eq_false, not_false_eq_true, rI_some, rL_some, rV_some, rA_ref, rA_null, b01, b01', i01, lcmp0, lcmp_lt, lcmp_gt, om1, m1_lt0, m_in m ha, g2 _ _ _ _ _ _ m, r_no2]
  · refine pr_of h i (r := some (.long (-9223372036854775806))) (h1 := h) (h2 := h) ?_ (sx_refl [] _) (by decide) ?_ (sx_refl [] _) (by decide)
    · show Ev 11 0 [some (.ref 0), some (.int x), some (.int y)] [] h = _
      simp (disch := omega) only [b11_0, b11_8, b11_22, e10, e01, em10, eq_self, lt0_nI, ge0_nI, cl_nI, le_nI, lt_nI, eq_nI, ne_m1, le40, lt40, gd_nI, nI_1, yle, nle, ylt, nlt, reduceIte, if_true, if_false, and_true, true_and, and_false, false_and, or_true, true_or, or_false, false_or, not_true_eq_false, not_false_eq_true, rI_some, rL_some, rV_some, rA_ref, rA_null, b01, b01', i01, lcmp0, lcmp_lt, lcmp_gt, om1, m1_lt0, g1 _ _ _ _ _ _ c]
    · show Ev 86 0 [some (.ref 27), some (.int x), some (.int y)] [] h = _
      simp (disch := omega) only [b86_0, b86_5, b86_25, b86_30, e10, e01, em10, eq_self, lt0_nI, ge0_nI, cl_nI, le_nI, lt_nI, eq_nI, ne_m1, le40, lt40, gd_nI, nI_1, yle, nle, ylt, nlt, reduceIte, if_true, if_false, and_true, true_and, and_false, false_and, or_true, true_or, or_false, false_or, not_true_eq_false, not_false_eq_true, rI_some, rL_some, rV_some, rA_ref, rA_null, b01, b01', i01, lcmp0, lcmp_lt, lcmp_gt, om1, m1_lt0, g2 _ _ _ _ _ _ m, r_no2]
theorem p_far (x y : Int32) : Pr 12 88 [.int x, .int y] := by
  intro h i
  have i' := i
  obtain ⟨n, sl, ly, ev, per, P, Q, K, E, c, m, _⟩ := i'
  have h40 := c.2.2.2.2.2.2.2.1
  rcases rng h40 x with ⟨a, ha, rfl⟩ | ⟨g1, g2⟩
  · rcases rng h40 y with ⟨b, hb, rfl⟩ | ⟨g1, g2⟩
    · obtain ⟨h1, e1, e2, e3, e4⟩ := r_trace c hb
      have m1 := hm_sx m e2 (by decide)
      obtain ⟨h2, f1, f2, f3, f4⟩ := r_goesDown m1 hb
      have f5 : Rt 87 [.ref 27, .int (nI a), .int (nI b)] h1 = some (some (.int ((dnA n P Q b).2 a)), h2) := by
        show Ev 87 0 [some (.ref 27), some (.int (nI a)), some (.int (nI b))] [] h1 = _
        simp (disch := omega) only [b87_0, b87_5, b87_11, e10, e01, em10, eq_self, lt0_nI, ge0_nI, cl_nI, le_nI, lt_nI, eq_nI, ne_m1, le40, lt40, gd_nI, nI_1, yle, nle, ylt, nlt, reduceIte, if_true, if_false, and_true, true_and, and_false, false_and, or_true, true_or, or_false, false_or, not_true_eq_false, not_false_eq_true, rI_some, rL_some, rV_some, rA_ref, rA_null, b01, b01', i01, lcmp0, lcmp_lt, lcmp_gt, om1, m1_lt0, f1, f4 a ha]
      refine pr_of h i (r := some (.int ((dnA n P Q b).2 a))) (h1 := h1) (h2 := h2) ?_ e2 (by decide) ?_ f2 (by decide)
      · show Ev 12 0 [some (.ref 0), some (.int (nI a)), some (.int (nI b))] [] h = _
        simp (disch := omega) only [b12_0, b12_8, b12_11, b12_19, b12_25, b12_37, b12_45, e10, e01, em10, eq_self, lt0_nI, ge0_nI, cl_nI, le_nI, lt_nI, eq_nI, ne_m1, le40, lt40, gd_nI, nI_1, yle, nle, ylt, nlt, reduceIte, if_true, if_false, and_true, true_and, and_false, false_and, or_true, true_or, or_false, false_or, not_true_eq_false, not_false_eq_true, rI_some, rL_some, rV_some, rA_ref, rA_null, b01, b01', i01, lcmp0, lcmp_lt, lcmp_gt, om1, m1_lt0, c_in c ha, c_in c hb, e1, r_stepsTo, e4 a ha]
      · show Ev 88 0 [some (.ref 27), some (.int (nI a)), some (.int (nI b))] [] h1 = _
        simp (disch := omega) only [b88_0, b88_5, b88_8, b88_13, b88_16, b88_22, b88_27, e10, e01, em10, eq_self, lt0_nI, ge0_nI, cl_nI, le_nI, lt_nI, eq_nI, ne_m1, le40, lt40, gd_nI, nI_1, yle, nle, ylt, nlt, reduceIte, if_true, if_false, and_true, true_and, and_false, false_and, or_true, true_or, or_false, false_or, not_true_eq_false, not_false_eq_true, rI_some, rL_some, rV_some, rA_ref, rA_null, b01, b01', i01, lcmp0, lcmp_lt, lcmp_gt, om1, m1_lt0, m_in m1 ha, m_in m1 hb, f5]
    · refine pr_of h i (r := some (.int (-2))) (h1 := h) (h2 := h) ?_ (sx_refl [] _) (by decide) ?_ (sx_refl [] _) (by decide)
      · show Ev 12 0 [some (.ref 0), some (.int (nI a)), some (.int y)] [] h = _
        simp (disch := omega) only [b12_0, b12_8, b12_11, b12_19, b12_22, e10, e01, em10, eq_self, lt0_nI, ge0_nI, cl_nI, le_nI, lt_nI, eq_nI, ne_m1, le40, lt40, gd_nI, nI_1, yle, nle, ylt, nlt, reduceIte, if_true, if_false, and_true, true_and, and_false, false_and, or_true, true_or, or_false, false_or, not_true_eq_false, not_false_eq_true, rI_some, rL_some, rV_some, rA_ref, rA_null, b01, b01', i01, lcmp0, lcmp_lt, lcmp_gt, om1, m1_lt0, c_in c ha, g1 _ _ _ _ _ _ c]
      · show Ev 88 0 [some (.ref 27), some (.int (nI a)), some (.int y)] [] h = _
        simp (disch := omega) only [b88_0, b88_5, b88_8, b88_13, b88_25, b88_27, e10, e01, em10, eq_self, lt0_nI, ge0_nI, cl_nI, le_nI, lt_nI, eq_nI, ne_m1, le40, lt40, gd_nI, nI_1, yle, nle, ylt, nlt, reduceIte, if_true, if_false, and_true, true_and, and_false, false_and, or_true, true_or, or_false, false_or, not_true_eq_false, not_false_eq_true, rI_some, rL_some, rV_some, rA_ref, rA_null, b01, b01', i01, lcmp0, lcmp_lt, lcmp_gt, om1, m1_lt0, m_in m ha, g2 _ _ _ _ _ _ m]
  · refine pr_of h i (r := some (.int (-2))) (h1 := h) (h2 := h) ?_ (sx_refl [] _) (by decide) ?_ (sx_refl [] _) (by decide)
    · show Ev 12 0 [some (.ref 0), some (.int x), some (.int y)] [] h = _
      simp (disch := omega) only [b12_0, b12_8, b12_22, e10, e01, em10, eq_self, lt0_nI, ge0_nI, cl_nI, le_nI, lt_nI, eq_nI, ne_m1, le40, lt40, gd_nI, nI_1, yle, nle, ylt, nlt, reduceIte, if_true, if_false, and_true, true_and, and_false, false_and, or_true, true_or, or_false, false_or, not_true_eq_false, not_false_eq_true, rI_some, rL_some, rV_some, rA_ref, rA_null, b01, b01', i01, lcmp0, lcmp_lt, lcmp_gt, om1, m1_lt0, g1 _ _ _ _ _ _ c]
    · show Ev 88 0 [some (.ref 27), some (.int x), some (.int y)] [] h = _
      simp (disch := omega) only [b88_0, b88_5, b88_25, b88_27, e10, e01, em10, eq_self, lt0_nI, ge0_nI, cl_nI, le_nI, lt_nI, eq_nI, ne_m1, le40, lt40, gd_nI, nI_1, yle, nle, ylt, nlt, reduceIte, if_true, if_false, and_true, true_and, and_false, false_and, or_true, true_or, or_false, false_or, not_true_eq_false, not_false_eq_true, rI_some, rL_some, rV_some, rA_ref, rA_null, b01, b01', i01, lcmp0, lcmp_lt, lcmp_gt, om1, m1_lt0, g2 _ _ _ _ _ _ m]
end IV
