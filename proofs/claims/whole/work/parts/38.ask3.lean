/-! The walk; the talk's questions; counts. -/
section AO
variable {n sl ly ev per : Nat} {P Q K : Nat → Int32} {E : Nat → Int64} {h h' : mH}
theorem sub_wk (w : WF n P Q K E) (pr : Nat → Int64) : ∀ (d : Nat) (pile found : Int64) (s u : Nat), d ≤ n → sub found n → sub (wk ev pr E d pile found s u).1 n
  | 0, _, found, _, _, _, hf => hf
  | d + 1, pile, found, s, u, hd, hf => by
    have h40 := w.1
    unfold wk
    split
    · split
      · exact sub_wk w pr d _ _ _ _ (by omega) (sub_or hf (sub_E w (by omega)))
      · exact sub_wk w pr d _ _ _ _ (by omega) (sub_or hf (sub_ob (by omega) (by omega)))
    · exact sub_wk w pr d _ _ _ _ (by omega) hf
theorem sub_orE (w : WF n P Q K E) (s : Int64) : ∀ d, d ≤ n → sub (orE E s d) n
  | 0, _ => sub_zero n
  | d + 1, hd => by
    unfold orE
    split
    · exact sub_or (sub_orE w s d (by omega)) (sub_E w (by omega))
    · exact sub_orE w s d (by omega)
theorem ct64 {s : Int64} (hs : sub s n) (h40 : n ≤ 40) : ct s 64 = ct s 40 := by rw [ct_up hs 64 (by omega) (by omega), ct_up hs 40 h40 (by omega)]
theorem p_walk (x y : Int32) : Pr 14 96 [.int x, .int y] := by
  intro h i
  have i' := i
  obtain ⟨n, sl, ly, ev, per, P, Q, K, E, c, m, z⟩ := i'
  obtain ⟨_, _, _, _, _, x6, x7, x8, x9, -⟩ := z
  have h40 := c.2.2.2.2.2.2.2.1
  have wf := c.2.2.2.2.2.2.2
  rcases rng h40 x with ⟨a, ha, rfl⟩ | ⟨g1, g2⟩
  · rcases rng_in y (k := 2) (by omega) with ⟨j, hj, rfl⟩ | hy
    · obtain ⟨h1, e1, e2, e3, e4, e5⟩ := r_descend c x6 x8 x9 ha
      have m1 := hm_sx m e2 (by decide)
      have hc2 := c2_yes hj
      have hp : Rt 15 [.ref 0, .int (nI j)] h1 = some (some (.int (wkR ev P Q E a (nI j))), h1) := by
        show Ev 15 0 [some (.ref 0), some (.int (nI j))] [] h1 = _
        rw [b15_0, wkR]
        by_cases x0 : nI j = 0
        · rw [if_pos x0, if_pos x0, b15_28, e3]
        · rw [if_neg x0, if_neg x0]
          by_cases x1 : nI j = 1
          · rw [if_pos x1, if_pos x1, b15_36, e4]
          · rw [if_neg x1, if_neg x1, b15_44, r_bitCount, rI_some, b15_54, e5, ct64 (n := n) (show sub (wkA ev P Q E a).1 n from sub_wk wf _ (a + 1) _ _ _ _ (by omega) (sub_zero n)) h40]
      refine pr_of h i (r := some (.int (wkR ev P Q E a (nI j)))) (h1 := h1) (h2 := h1) ?_ e2 (by decide) ?_ (sx_refl [] _) (by decide)
      · show Ev 14 0 [some (.ref 0), some (.int (nI a)), some (.int (nI j))] [] h = _
        simp (disch := omega) only [b14_0, b14_8, e10, e01, em10, eq_self, lt0_nI, ge0_nI, cl_nI, le_nI, lt_nI, eq_nI, ne_m1, le40, lt40, gd_nI, nI_1, yle, nle, ylt, nlt, reduceIte, if_true, if_false, and_true, true_and, and_false, false_and, or_true, true_or, or_false, false_or, not_true_eq_false, not_false_eq_true, rI_some, rL_some, rV_some, rA_ref, rA_null, b01, b01', i01, lcmp0, lcmp_lt, lcmp_gt, om1, m1_lt0, c_in c ha]
        rw [b14_11, if_neg hc2.1, b14_15, if_pos hc2.2, b14_23, e1, rV_some, b14_35, hp, rI_some, b14_40]
      · show Ev 96 0 [some (.ref 27), some (.int (nI a)), some (.int (nI j))] [] h1 = _
        have x7' : gI h1 27 13 = nI ev := by rw [(e2 27 13 (by decide)).1]; exact x7
        simp (disch := omega) only [b96_0, b96_5, b96_8, b96_17, b96_20, b96_26, b96_31, e10, e01, em10, eq_self, lt0_nI, ge0_nI, cl_nI, le_nI, lt_nI, eq_nI, ne_m1, le40, lt40, gd_nI, nI_1, yle, nle, ylt, nlt, reduceIte, if_true, if_false, and_true, true_and, and_false, false_and, or_true, true_or, or_false, false_or, not_true_eq_false, not_false_eq_true, rI_some, rL_some, rV_some, rA_ref, rA_null, b01, b01', i01, lcmp0, lcmp_lt, lcmp_gt, om1, m1_lt0, m_in m1 ha, in_yes (k := 2) (by omega) hj (A := 0) (B := 2) (by decide) (by decide), r_walkBy m1 x7' x8 x9 ha]
    · refine pr_of h i (r := some (.int (-2))) (h1 := h) (h2 := h) ?_ (sx_refl [] _) (by decide) ?_ (sx_refl [] _) (by decide)
      · show Ev 14 0 [some (.ref 0), some (.int (nI a)), some (.int y)] [] h = _
        simp (disch := omega) only [b14_0, b14_8, e10, e01, em10, eq_self, lt0_nI, ge0_nI, cl_nI, le_nI, lt_nI, eq_nI, ne_m1, le40, lt40, gd_nI, nI_1, yle, nle, ylt, nlt, reduceIte, if_true, if_false, and_true, true_and, and_false, false_and, or_true, true_or, or_false, false_or, not_true_eq_false, not_false_eq_true, rI_some, rL_some, rV_some, rA_ref, rA_null, b01, b01', i01, lcmp0, lcmp_lt, lcmp_gt, om1, m1_lt0, c_in c ha]
        rw [b14_11]
        by_cases h0 : y < 0
        · rw [if_pos h0, b14_20]
        · rw [if_neg h0, b14_15, if_neg (show ¬ y ≤ (2 : Int32) from c2_no hy h0), b14_20]
      · show Ev 96 0 [some (.ref 27), some (.int (nI a)), some (.int y)] [] h = _
        simp (disch := omega) only [b96_0, b96_5, b96_8, b96_17, b96_29, b96_31, e10, e01, em10, eq_self, lt0_nI, ge0_nI, cl_nI, le_nI, lt_nI, eq_nI, ne_m1, le40, lt40, gd_nI, nI_1, yle, nle, ylt, nlt, reduceIte, if_true, if_false, and_true, true_and, and_false, false_and, or_true, true_or, or_false, false_or, not_true_eq_false, not_false_eq_true, rI_some, rL_some, rV_some, rA_ref, rA_null, b01, b01', i01, lcmp0, lcmp_lt, lcmp_gt, om1, m1_lt0, m_in m ha, in_no (k := 2) hy (A := 0) (B := 2) (by decide) (by decide)]
  · refine pr_of h i (r := some (.int (-2))) (h1 := h) (h2 := h) ?_ (sx_refl [] _) (by decide) ?_ (sx_refl [] _) (by decide)
    · show Ev 14 0 [some (.ref 0), some (.int x), some (.int y)] [] h = _
      simp (disch := omega) only [b14_0, b14_8, b14_20, e10, e01, em10, eq_self, lt0_nI, ge0_nI, cl_nI, le_nI, lt_nI, eq_nI, ne_m1, le40, lt40, gd_nI, nI_1, yle, nle, ylt, nlt, reduceIte, if_true, if_false, and_true, true_and, and_false, false_and, or_true, true_or, or_false, false_or, not_true_eq_false, not_false_eq_true, rI_some, rL_some, rV_some, rA_ref, rA_null, b01, b01', i01, lcmp0, lcmp_lt, lcmp_gt, om1, m1_lt0, g1 _ _ _ _ _ _ c]
    · show Ev 96 0 [some (.ref 27), some (.int x), some (.int y)] [] h = _
      simp (disch := omega) only [b96_0, b96_5, b96_29, b96_31, e10, e01, em10, eq_self, lt0_nI, ge0_nI, cl_nI, le_nI, lt_nI, eq_nI, ne_m1, le40, lt40, gd_nI, nI_1, yle, nle, ylt, nlt, reduceIte, if_true, if_false, and_true, true_and, and_false, false_and, or_true, true_or, or_false, false_or, not_true_eq_false, not_false_eq_true, rI_some, rL_some, rV_some, rA_ref, rA_null, b01, b01', i01, lcmp0, lcmp_lt, lcmp_gt, om1, m1_lt0, g2 _ _ _ _ _ _ m]
/-- the talk on either side -/
def Tb (n : Nat) (P Q K : Nat → Int32) (E : Nat → Int64) (per : Nat) (h : mH) : Tk := TA n P Q K E (gJ h 15 0) (gJ h 15 1) per (decide (gI h 15 3 = 1))
def gB (n : Nat) (E : Nat → Int64) (h : mH) : Int64 := orE E (gJ h 15 1) n
theorem tb_sx {R : List Nat} (a : Sx R h h') (hR : 0 ∉ R) : Tb n P Q K E per h' = Tb n P Q K E per h ∧ gB n E h' = gB n E h := by
  unfold Tb gB
  rw [(a 15 0 hR).2, (a 15 1 hR).2, (a 15 3 hR).1]
  exact ⟨rfl, rfl⟩
theorem tk_c (c : HC h n sl P Q K E) (x : Ix h n sl ly ev per) : ∃ h1, Rt 118 [.ref 15, .ref 1] h = some (none, h1) ∧ Sx [5] h h1 ∧ TC h1 (gB n E h) (Tb n P Q K E per h) := by
  obtain ⟨x1, x2, x3, x4, x5, x6, x7, x8, x9, x10, x11, x12, x13, x14, x15, x16, x17, x18, x19, x20⟩ := x
  exact r_talk c (by omega) rfl rfl x10 rfl x17
theorem tk_m (m : HM h n sl P Q K E) (x : Ix h n sl ly ev per) : ∃ h1, Rt 105 [.ref 27] h = some (none, h1) ∧ Sx [9] h h1 ∧ TM h1 (gB n E h) (Tb n P Q K E per h).t (Tb n P Q K E per h) := by
  obtain ⟨x1, x2, x3, x4, x5, x6, x7, x8, x9, x10, x11, x12, x13, x14, x15, x16, x17, x18, x19, x20⟩ := x
  exact r_talks m (by omega) (by omega) x15 x16 x11 x14 x17
theorem tk_i (w : WF n P Q K E) (x : Ix h n sl ly ev per) : TI n (Tb n P Q K E per h) := by
  obtain ⟨x1, x2, x3, x4, x5, x6, x7, x8, x9, x10, x11, x12, x13, x14, x15, x16, x17, x18, x19, x20⟩ := x
  exact ti_TA w x17 _ _ _
/-- both talk -/
theorem both (c : HC h n sl P Q K E) (m : HM h n sl P Q K E) (x : Ix h n sl ly ev per) : ∃ h1 h2, Rt 118 [.ref 15, .ref 1] h = some (none, h1) ∧ Sx [5] h h1 ∧ TC h1 (gB n E h) (Tb n P Q K E per h) ∧ HC h1 n sl P Q K E ∧ HM h1 n sl P Q K E ∧ Ix h1 n sl ly ev per ∧ Rt 105 [.ref 27] h1 = some (none, h2) ∧ Sx [9] h1 h2 ∧ TM h2 (gB n E h) (Tb n P Q K E per h).t (Tb n P Q K E per h) ∧ HM h2 n sl P Q K E ∧ Ix h2 n sl ly ev per := by
  obtain ⟨h1, e1, e2, e3⟩ := tk_c c x
  have x1 := ix_sx e2 (by decide) x
  have m1 := hm_sx m e2 (by decide)
  obtain ⟨h2, f1, f2, f3⟩ := tk_m m1 x1
  have tb := tb_sx (n := n) (P := P) (Q := Q) (K := K) (E := E) (per := per) e2 (by decide)
  rw [tb.1, tb.2] at f3
  exact ⟨h1, h2, e1, e2, e3, hc_sx c e2 (by decide), m1, x1, f1, f2, f3, hm_sx m1 f2 (by decide), ix_sx f2 (by decide) x1⟩
theorem p_rounds : Pr 20 108 [] := by
  intro h i
  have i' := i
  obtain ⟨n, sl, ly, ev, per, P, Q, K, E, c, m, x⟩ := i'
  obtain ⟨h1, h2, e1, e2, e3, c1, m1, x1, f1, f2, f3, m2, x2⟩ := both c m x
  refine pr_of h i (r := some (.int (nI (Tb n P Q K E per h).hd))) (h1 := h1) (h2 := h2) ?_ e2 (by decide) ?_ f2 (by decide)
  · show Ev 20 0 [some (.ref 0)] [] h = _
    rw [b20_0, e1, rV_some, b20_11, e3.2.2.2.2.2.1]
  · show Ev 108 0 [some (.ref 27)] [] h1 = _
    rw [b108_0, f1, rV_some, b108_4, f3.2.2.2.2.2.1]
theorem p_sets (y : Int32) : Pr 19 107 [.int y] := by
  intro h i
  have i' := i
  obtain ⟨n, sl, ly, ev, per, P, Q, K, E, c, m, x⟩ := i'
  rcases rng_in y (k := 4) (by omega) with ⟨j, hj, rfl⟩ | hy
  · obtain ⟨h1, h2, e1, e2, e3, c1, m1, x1, f1, f2, f3, m2, x2⟩ := both c m x
    have hst : ∀ y, stB (gJ h2 27 16) (gJ h2 27 17) (gJ h2 27 28) (gJ h2 27 27) y = stB (gJ h1 15 0) (gJ h1 15 1) (gJ h1 15 11) (gJ h1 15 10) y := by
      intro y
      have q1 := x2.2.2.2.2.2.2.2.2.2.2.2.2.2.2.1
      have q2 := x2.2.2.2.2.2.2.2.2.2.2.2.2.2.2.2.1
      rw [q1, q2, (f2 15 0 (by decide)).2, (f2 15 1 (by decide)).2, e3.1, f3.1, e3.2.2.2.1, f3.2.2.2.1]
    refine pr_of h i (r := some (.long (stB (gJ h1 15 0) (gJ h1 15 1) (gJ h1 15 11) (gJ h1 15 10) (nI j)))) (h1 := h1) (h2 := h2) ?_ e2 (by decide) ?_ f2 (by decide)
    · show Ev 19 0 [some (.ref 0), some (.int (nI j))] [] h = _
      rw [b19_0, if_neg (by rw [lt0_nI (by omega)]; exact fun q => q), b19_4, if_pos (show nI j ≤ (4 : Int32) from by rw [show (4 : Int32) = nI 4 from rfl, le_nI (by omega) (by omega)]; exact hj), b19_13, e1, rV_some, b19_24, r_setOf, rL_some, b19_32]
    · show Ev 107 0 [some (.ref 27), some (.int (nI j))] [] h1 = _
      rw [b107_0, f1, rV_some]
      simp (disch := omega) only [b107_4, b107_13, b107_16, b107_21, b107_29, e10, e01, em10, eq_self, lt0_nI, ge0_nI, cl_nI, le_nI, lt_nI, eq_nI, ne_m1, le40, lt40, gd_nI, nI_1, yle, nle, ylt, nlt, reduceIte, if_true, if_false, and_true, true_and, and_false, false_and, or_true, true_or, or_false, false_or, not_true_eq_false, not_false_eq_true, rI_some, rL_some, rV_some, rA_ref, rA_null, b01, b01', i01, lcmp0, lcmp_lt, lcmp_gt, om1, m1_lt0, in_yes (k := 4) (by omega) hj (A := 0) (B := 4) (by decide) (by decide), r_setBy, hst]
  · obtain ⟨h2, f1, f2, f3⟩ := tk_m m x
    refine pr_of h i (r := some (.long (-9223372036854775806))) (h1 := h) (h2 := h2) ?_ (sx_refl [] _) (by decide) ?_ f2 (by decide)
    · show Ev 19 0 [some (.ref 0), some (.int y)] [] h = _
      rw [b19_0]
      by_cases h0 : y < 0
      · rw [if_pos h0, b19_9]
      · rw [if_neg h0, b19_4, if_neg (show ¬ y ≤ (4 : Int32) from c2_no hy h0), b19_9]
    · show Ev 107 0 [some (.ref 27), some (.int y)] [] h = _
      rw [b107_0, f1, rV_some]
      simp (disch := omega) only [b107_4, b107_13, b107_24, b107_29, e10, e01, em10, eq_self, lt0_nI, ge0_nI, cl_nI, le_nI, lt_nI, eq_nI, ne_m1, le40, lt40, gd_nI, nI_1, yle, nle, ylt, nlt, reduceIte, if_true, if_false, and_true, true_and, and_false, false_and, or_true, true_or, or_false, false_or, not_true_eq_false, not_false_eq_true, rI_some, rL_some, rV_some, rA_ref, rA_null, b01, b01', i01, lcmp0, lcmp_lt, lcmp_gt, om1, m1_lt0, in_no (k := 4) hy (A := 0) (B := 4) (by decide) (by decide), r_no2]
theorem p_told (y z : Int32) : Pr 21 110 [.int y, .int z] := by
  intro h i
  have i' := i
  obtain ⟨n, sl, ly, ev, per, P, Q, K, E, c, m, x⟩ := i'
  have h40 := c.2.2.2.2.2.2.2.1
  have ti := tk_i c.2.2.2.2.2.2.2 x
  rcases rng_in y (k := 39) (by omega) with ⟨j, hj, rfl⟩ | hy
  · rcases rng_in z (k := 2) (by omega) with ⟨k, hk, rfl⟩ | hz
    · obtain ⟨h1, h2, e1, e2, e3, c1, m1, x1, f1, f2, f3, m2, x2⟩ := both c m x
      have hc2 := c2_yes hk
      refine pr_of h i (r := some (.int (toB (Tb n P Q K E per h) (gB n E h) j (nI k)))) (h1 := h1) (h2 := h2) ?_ e2 (by decide) ?_ f2 (by decide)
      · show Ev 21 0 [some (.ref 0), some (.int (nI j)), some (.int (nI k))] [] h = _
        rw [b21_0, if_neg (by rw [lt0_nI (by omega)]; exact fun q => q), b21_4, if_neg (by rw [le40 (by omega)]; omega), b21_10, if_neg hc2.1, b21_14, if_pos hc2.2, b21_22, e1, rV_some, b21_33, r_tellingPart e3 ti h40 (by omega), rI_some, b21_42]
      · show Ev 110 0 [some (.ref 27), some (.int (nI j)), some (.int (nI k))] [] h1 = _
        rw [b110_0, f1, rV_some]
        simp (disch := omega) only [b110_4, b110_13, b110_16, b110_25, b110_28, b110_34, b110_39, e10, e01, em10, eq_self, lt0_nI, ge0_nI, cl_nI, le_nI, lt_nI, eq_nI, ne_m1, le40, lt40, gd_nI, nI_1, yle, nle, ylt, nlt, reduceIte, if_true, if_false, and_true, true_and, and_false, false_and, or_true, true_or, or_false, false_or, not_true_eq_false, not_false_eq_true, rI_some, rL_some, rV_some, rA_ref, rA_null, b01, b01', i01, lcmp0, lcmp_lt, lcmp_gt, om1, m1_lt0, in_yes (k := 39) (by omega) hj (A := 0) (B := 39) (by decide) (by decide), in_yes (k := 2) (by omega) hk (A := 0) (B := 2) (by decide) (by decide), r_toldBy f3 ti h40]
    · obtain ⟨h2, f1, f2, f3⟩ := tk_m m x
      refine pr_of h i (r := some (.int (-2))) (h1 := h) (h2 := h2) ?_ (sx_refl [] _) (by decide) ?_ f2 (by decide)
      · show Ev 21 0 [some (.ref 0), some (.int (nI j)), some (.int z)] [] h = _
        rw [b21_0, if_neg (by rw [lt0_nI (by omega)]; exact fun q => q), b21_4, if_neg (by rw [le40 (by omega)]; omega), b21_10]
        by_cases h0 : z < 0
        · rw [if_pos h0, b21_19]
        · rw [if_neg h0, b21_14, if_neg (show ¬ z ≤ (2 : Int32) from c2_no hz h0), b21_19]
      · show Ev 110 0 [some (.ref 27), some (.int (nI j)), some (.int z)] [] h = _
        rw [b110_0, f1, rV_some]
        simp (disch := omega) only [b110_4, b110_13, b110_16, b110_25, b110_37, b110_39, e10, e01, em10, eq_self, lt0_nI, ge0_nI, cl_nI, le_nI, lt_nI, eq_nI, ne_m1, le40, lt40, gd_nI, nI_1, yle, nle, ylt, nlt, reduceIte, if_true, if_false, and_true, true_and, and_false, false_and, or_true, true_or, or_false, false_or, not_true_eq_false, not_false_eq_true, rI_some, rL_some, rV_some, rA_ref, rA_null, b01, b01', i01, lcmp0, lcmp_lt, lcmp_gt, om1, m1_lt0, in_yes (k := 39) (by omega) hj (A := 0) (B := 39) (by decide) (by decide), in_no (k := 2) hz (A := 0) (B := 2) (by decide) (by decide)]
  · obtain ⟨h2, f1, f2, f3⟩ := tk_m m x
    refine pr_of h i (r := some (.int (-2))) (h1 := h) (h2 := h2) ?_ (sx_refl [] _) (by decide) ?_ f2 (by decide)
    · show Ev 21 0 [some (.ref 0), some (.int y), some (.int z)] [] h = _
      rw [b21_0]
      by_cases h0 : y < 0
      · rw [if_pos h0, b21_19]
      · rw [if_neg h0, b21_4, if_pos, b21_19]
        rcases int_cases y with q | ⟨j, hj, rfl⟩
        · exact absurd q h0
        · rcases hy with hy | hy
          · exact absurd hy h0
          · rw [lt_nI (by omega) (by omega)] at hy
            rw [le40 (by omega)]; omega
    · show Ev 110 0 [some (.ref 27), some (.int y), some (.int z)] [] h = _
      rw [b110_0, f1, rV_some]
      simp (disch := omega) only [b110_4, b110_13, b110_37, b110_39, e10, e01, em10, eq_self, lt0_nI, ge0_nI, cl_nI, le_nI, lt_nI, eq_nI, ne_m1, le40, lt40, gd_nI, nI_1, yle, nle, ylt, nlt, reduceIte, if_true, if_false, and_true, true_and, and_false, false_and, or_true, true_or, or_false, false_or, not_true_eq_false, not_false_eq_true, rI_some, rL_some, rV_some, rA_ref, rA_null, b01, b01', i01, lcmp0, lcmp_lt, lcmp_gt, om1, m1_lt0, in_no (k := 39) hy (A := 0) (B := 39) (by decide) (by decide)]
theorem p_things : Pr 22 112 [] := by
  intro h i
  have i' := i
  obtain ⟨n, sl, ly, ev, per, P, Q, K, E, c, m, x⟩ := i'
  obtain ⟨h1, h2, e1, e2, e3, c1, m1, x1, f1, f2, f3, m2, x2⟩ := both c m x
  refine pr_of h i (h1 := h1) (h2 := h2) (r := some (.int (orI (gI h1 4) (gJ h1 15 11 &&& (gJ h1 15 10 ^^^ (-1))) n &&& (orI (gI h1 4) (gJ h1 15 10) n ^^^ (-1))))) ?_ e2 (by decide) ?_ f2 (by decide)
  · show Ev 22 0 [some (.ref 0)] [] h = _
    rw [b22_0, e1, rV_some, b22_11, r_thingsSent c1, rI_some, b22_22]
  · show Ev 112 0 [some (.ref 27)] [] h1 = _
    rw [b112_0, f1, rV_some, b112_4, r_thingsNow m2, rI_some, b112_8, x2.1, f3.1, f3.2.2.2.1, e3.1, e3.2.2.2.1, sx_fI f2 (fun j => by rw [rg4]; decide)]
end AO
