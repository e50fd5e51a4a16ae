/-! DIGEST: the class. -/
def fo (F : Nat → Int64) : Nat → Nat → Int64 → Int64
  | 0, _, z => z
  | k + 1, i, z => fo F k (i + 1) (31 * z + F i)
def lyB (h : mH) (ly j : Nat) : Int32 := if j < ly then gI h 7 j else -1
def lkB (n sl : Nat) (P Q K : Nat → Int32) (E : Nat → Int64) (a b j : Nat) : Int32 := if j = 0 then (if bt (E b) a = true then 1 else 0) else nI (lkA n sl P Q K (alw n sl K a (decide (j = 2))) a b).1
def dgA (n sl : Nat) (P Q K T : Nat → Int32) (E : Nat → Int64) (c : Nat) (z : Int64) : Int64 := 31 * fo (fun j => (cmB n sl P Q K T c (nI j)).toInt64) 6 0 z + E c
def dgB (ev : Nat) (P Q : Nat → Int32) (E : Nat → Int64) (c : Nat) (z : Int64) : Int64 := fo (fun j => (wkR ev P Q E c (nI j)).toInt64) 3 0 (fo (fun j => (kpB ev E c (nI j)).toInt64) 3 0 z)
def dgC (n sl : Nat) (P Q K : Nat → Int32) (E : Nat → Int64) (b c : Nat) (z : Int64) : Int64 := 31 * (31 * (31 * (31 * (fo (fun j => (lkB n sl P Q K E c b j).toInt64) 3 0 (31 * (31 * z + (ptA n sl P Q K c b).1) + (nI (ptA n sl P Q K c b).2).toInt64)) + (dnA n P Q b).1 c) + ((dnA n P Q b).2 c).toInt64) + (ptA n sl P Q K c 0).1) + (lkB n sl P Q K E 0 c 1).toInt64
section DG
variable {n sl ly ev per : Nat} {P Q K : Nat → Int32} {E : Nat → Int64} {h h' h1 h2 : mH}
theorem r_mix (a b : Int64) (h : mH) : Rt 40 [.long a, .long b] h = some (some (.long (31 * a + b)), h) := by
  show Ev 40 0 [some (.long a), none, some (.long b), none] [] h = _
  rw [b40_0]
theorem r_layerSize (e : gI h 1 8 = nI ly) (hly : ly ≤ 40) {j : Nat} (hj : j < 40) : Rt 132 [.ref 1, .int (nI j)] h = some (some (.int (lyB h ly j)), h) := by
  show Ev 132 0 [some (.ref 1), some (.int (nI j))] [] h = _
  rw [lyB]
  by_cases hl : j < ly
  · simp (disch := omega) only [b132_0, b132_4, b132_12, b132_18, b132_22, e10, e01, em10, eq_self, lt0_nI, ge0_nI, cl_nI, le_nI, lt_nI, eq_nI, ne_m1, le40, lt40, gd_nI, nI_1, yle, nle, ylt, nlt, reduceIte, if_true, if_false, and_true, true_and, and_false, false_and, or_true, true_or, or_false, false_or, not_true_eq_false, not_false_eq_true, rI_some, rL_some, rV_some, rA_ref, rA_null, b01, b01', i01, lcmp0, lcmp_lt, lcmp_gt, om1, m1_lt0, e]
  · simp (disch := omega) only [b132_0, b132_4, b132_21, b132_22, e10, e01, em10, eq_self, lt0_nI, ge0_nI, cl_nI, le_nI, lt_nI, eq_nI, ne_m1, le40, lt40, gd_nI, nI_1, yle, nle, ylt, nlt, reduceIte, if_true, if_false, and_true, true_and, and_false, false_and, or_true, true_or, or_false, false_or, not_true_eq_false, not_false_eq_true, rI_some, rL_some, rV_some, rA_ref, rA_null, b01, b01', i01, lcmp0, lcmp_lt, lcmp_gt, om1, m1_lt0, e]
theorem r_layerBy (e : gI h 27 11 = nI ly) (e2 : gI h 36 = gI h 7) (hly : ly ≤ 40) {j : Nat} (hj : j < 40) : Rt 66 [.ref 27, .int (nI j)] h = some (some (.int (lyB h ly j)), h) := by
  show Ev 66 0 [some (.ref 27), some (.int (nI j))] [] h = _
  rw [lyB]
  by_cases hl : j < ly
  · simp (disch := omega) only [b66_0, b66_8, b66_14, b66_18, e10, e01, em10, eq_self, lt0_nI, ge0_nI, cl_nI, le_nI, lt_nI, eq_nI, ne_m1, le40, lt40, gd_nI, nI_1, yle, nle, ylt, nlt, reduceIte, if_true, if_false, and_true, true_and, and_false, false_and, or_true, true_or, or_false, false_or, not_true_eq_false, not_false_eq_true, rI_some, rL_some, rV_some, rA_ref, rA_null, b01, b01', i01, lcmp0, lcmp_lt, lcmp_gt, om1, m1_lt0, e, e2]
  · simp (disch := omega) only [b66_0, b66_17, b66_18, e10, e01, em10, eq_self, lt0_nI, ge0_nI, cl_nI, le_nI, lt_nI, eq_nI, ne_m1, le40, lt40, gd_nI, nI_1, yle, nle, ylt, nlt, reduceIte, if_true, if_false, and_true, true_and, and_false, false_and, or_true, true_or, or_false, false_or, not_true_eq_false, not_false_eq_true, rI_some, rL_some, rV_some, rA_ref, rA_null, b01, b01', i01, lcmp0, lcmp_lt, lcmp_gt, om1, m1_lt0, e]
theorem mc1 (F : Nat → Int32) (hF : ∀ j, j < 8 → Rt 31 [.ref 0, .int (nI j)] h = some (some (.int (F j)), h)) (x1 : Int64) : ∀ (k i : Nat) (z : Int64) (o2 o4 : Option Value), i + k = 8 → ∃ q2 q4, Ev 32 5 [some (.ref 0), some (.long x1), o2, some (.long z), o4, some (.int (nI i))] [] h = Ev 32 30 [some (.ref 0), some (.long x1), q2, some (.long (fo (fun j => (F j).toInt64) k i z)), q4, some (.int (nI 8))] [] h
  | 0, i, z, o2, o4, hk => by
    obtain rfl : i = 8 := by omega
    exact ⟨o2, o4, by rw [b32_5, if_pos (by decide)]; rfl⟩
  | k + 1, i, z, o2, o4, hk => by
    obtain ⟨q2, q4, e⟩ := mc1 F hF x1 k (i + 1) (31 * z + (F i).toInt64) (kil o2) none (by omega)
    refine ⟨q2, q4, ?_⟩
    rw [fo, ← e, b32_5, if_neg (show ¬ (8 : Int32) ≤ nI i from by rw [show (8 : Int32) = nI 8 from rfl, le_nI (by omega) (by omega)]; omega), b32_12, hF i (by omega), rI_some, b32_19, r_mix, rL_some, b32_23, nI_1]
theorem mc2 (F : Nat → Int32) (hF : ∀ j, j < 10 → Rt 132 [.ref 1, .int (nI j)] h = some (some (.int (F j)), h)) (x1 : Int64) : ∀ (k i : Nat) (z : Int64) (o2 o4 : Option Value), i + k = 10 → Ev 32 33 [some (.ref 0), some (.long x1), o2, some (.long z), o4, some (.int (nI i))] [] h = some (some (.long (fo (fun j => (F j).toInt64) k i z)), h)
  | 0, i, z, o2, o4, hk => by
    obtain rfl : i = 10 := by omega
    rw [b32_33, if_pos (by decide), b32_61]; rfl
  | k + 1, i, z, o2, o4, hk => by
    rw [fo, ← mc2 F hF x1 k (i + 1) (31 * z + (F i).toInt64) (kil o2) none (by omega), b32_33, if_neg (show ¬ (10 : Int32) ≤ nI i from by rw [show (10 : Int32) = nI 10 from rfl, le_nI (by omega) (by omega)]; omega), b32_40, hF i (by omega), rI_some, b32_50, r_mix, rL_some, b32_54, nI_1]
theorem r_mixCounts (F G : Nat → Int32) (hF : ∀ j, j < 8 → Rt 31 [.ref 0, .int (nI j)] h = some (some (.int (F j)), h)) (hG : ∀ j, j < 10 → Rt 132 [.ref 1, .int (nI j)] h = some (some (.int (G j)), h)) (z : Int64) : Rt 32 [.ref 0, .long z] h = some (some (.long (fo (fun j => (G j).toInt64) 10 0 (fo (fun j => (F j).toInt64) 8 0 z))), h) := by
  show Ev 32 0 [some (.ref 0), some (.long z), none, none, none, none] [] h = _
  obtain ⟨q2, q4, e⟩ := mc1 F hF z 8 0 z (kil none) none rfl
  rw [b32_0]
  refine Eq.trans e ?_
  rw [b32_30]
  exact mc2 G hG z 10 0 _ _ _ rfl
theorem mm1 (F : Nat → Int32) {c : Nat} (hF : ∀ j, j < 6 → Rt 6 [.ref 0, .int (nI c), .int (nI j)] h = some (some (.int (F j)), h)) (x1 : Int64) (o2 : Option Value) : ∀ (k i : Nat) (z : Int64) (o5 : Option Value), i + k = 6 → ∃ q5, Ev 33 6 [some (.ref 0), some (.long x1), o2, some (.int (nI c)), some (.long z), o5, some (.int (nI i))] [] h = Ev 33 34 [some (.ref 0), some (.long x1), o2, some (.int (nI c)), some (.long (fo (fun j => (F j).toInt64) k i z)), q5, some (.int (nI 6))] [] h
  | 0, i, z, o5, hk => by
    obtain rfl : i = 6 := by omega
    exact ⟨o5, by rw [b33_6, if_pos (by decide)]; rfl⟩
  | k + 1, i, z, o5, hk => by
    obtain ⟨q5, e⟩ := mm1 F hF x1 o2 k (i + 1) (31 * z + (F i).toInt64) none (by omega)
    refine ⟨q5, ?_⟩
    rw [fo, ← e, b33_6, if_neg (show ¬ (6 : Int32) ≤ nI i from by rw [show (6 : Int32) = nI 6 from rfl, le_nI (by omega) (by omega)]; omega), b33_13, hF i (by omega), rI_some, b33_22, r_mix, rL_some, b33_26, nI_1]
theorem r_mixCommit (c : HC h n sl P Q K E) {a : Nat} (ha : a < n) (z : Int64) : Rt 33 [.ref 0, .long z, .int (nI a)] h = some (some (.long (dgA n sl P Q K (gI h 4) E a z)), h) := by
  show Ev 33 0 [some (.ref 0), some (.long z), none, some (.int (nI a)), none, none, none] [] h = _
  obtain ⟨q5, e⟩ := mm1 (fun j => cmB n sl P Q K (gI h 4) a (nI j)) (fun j hj => cm_c c ha (j5 (by omega))) z none 6 0 z none rfl
  rw [b33_0]
  refine Eq.trans e ?_
  rw [b33_34, c_reach c ha, rL_some, b33_44, r_mix, rL_some, b33_47]
  rfl
theorem mk1 (F : Nat → Int32) {c : Nat} (hF : ∀ j, j < 3 → Rt 13 [.ref 0, .int (nI c), .int (nI j)] h = some (some (.int (F j)), h)) (x1 : Int64) (o2 : Option Value) : ∀ (k i : Nat) (z : Int64) (o5 : Option Value), i + k = 3 → ∃ q5, Ev 34 6 [some (.ref 0), some (.long x1), o2, some (.int (nI c)), some (.long z), o5, some (.int (nI i))] [] h = Ev 34 33 [some (.ref 0), some (.long x1), o2, some (.int (nI c)), some (.long (fo (fun j => (F j).toInt64) k i z)), q5, some (.int (nI 3))] [] h
  | 0, i, z, o5, hk => by
    obtain rfl : i = 3 := by omega
    exact ⟨o5, by rw [b34_6, if_pos (by decide)]; rfl⟩
  | k + 1, i, z, o5, hk => by
    obtain ⟨q5, e⟩ := mk1 F hF x1 o2 k (i + 1) (31 * z + (F i).toInt64) none (by omega)
    refine ⟨q5, ?_⟩
    rw [fo, ← e, b34_6, if_neg (show ¬ (3 : Int32) ≤ nI i from by rw [show (3 : Int32) = nI 3 from rfl, le_nI (by omega) (by omega)]; omega), b34_12, hF i (by omega), rI_some, b34_21, r_mix, rL_some, b34_25, nI_1]
theorem mk2 (F : Nat → Int32) {c : Nat} (hF : ∀ j, j < 3 → Rt 15 [.ref 0, .int (nI j)] h = some (some (.int (F j)), h)) (x1 : Int64) (o2 : Option Value) : ∀ (k i : Nat) (z : Int64) (o5 : Option Value), i + k = 3 → Ev 34 48 [some (.ref 0), some (.long x1), o2, some (.int (nI c)), some (.long z), o5, some (.int (nI i))] [] h = some (some (.long (fo (fun j => (F j).toInt64) k i z)), h)
  | 0, i, z, o5, hk => by
    obtain rfl : i = 3 := by omega
    rw [b34_48, if_pos (by decide), b34_74]; rfl
  | k + 1, i, z, o5, hk => by
    rw [fo, ← mk2 F hF x1 o2 k (i + 1) (31 * z + (F i).toInt64) none (by omega), b34_48, if_neg (show ¬ (3 : Int32) ≤ nI i from by rw [show (3 : Int32) = nI 3 from rfl, le_nI (by omega) (by omega)]; omega), b34_54, hF i (by omega), rI_some, b34_62, r_mix, rL_some, b34_66, nI_1]
theorem r_mixKept (c : HC h n sl P Q K E) (he : gI h 14 0 = nI ev) (v1 : 1 ≤ ev) (v2 : ev ≤ 10) {a : Nat} (ha : a < n) (z : Int64) : ∃ h', Rt 34 [.ref 0, .long z, .int (nI a)] h = some (some (.long (dgB ev P Q E a z)), h') ∧ Sx [4] h h' := by
  have h40 := c.2.2.2.2.2.2.2.1
  have wf := c.2.2.2.2.2.2.2
  obtain ⟨h1, e1, e2, e3, e4, e5⟩ := r_descend c he v1 v2 ha
  refine ⟨h1, ?_, e2⟩
  show Ev 34 0 [some (.ref 0), some (.long z), none, some (.int (nI a)), none, none, none] [] h = _
  obtain ⟨q5, e⟩ := mk1 (fun j => kpB ev E a (nI j)) (fun j hj => kp_c c he v1 v2 ha (by omega)) z none 3 0 z none rfl
  rw [b34_0]
  refine Eq.trans e ?_
  rw [b34_33, e1, rV_some, b34_45]
  refine mk2 (fun j => wkR ev P Q E a (nI j)) (fun j hj => ?_) z none 3 0 _ _ rfl
  show Ev 15 0 [some (.ref 0), some (.int (nI j))] [] h1 = _
  rw [b15_0, wkR]
  by_cases x0 : nI j = 0
  · rw [if_pos x0, if_pos x0, b15_28, e3]
  · rw [if_neg x0, if_neg x0]
    by_cases x1 : nI j = 1
    · rw [if_pos x1, if_pos x1, b15_36, e4]
    · rw [if_neg x1, if_neg x1, b15_44, r_bitCount, rI_some, b15_54, e5, ct64 (n := n) (show sub (wkA ev P Q E a).1 n from sub_wk wf _ (a + 1) _ _ _ _ (by omega) (sub_zero n)) h40]
theorem r_mixPairs (c : HC h n sl P Q K E) {a b : Nat} (ha : a < n) (hb : b < n) (z : Int64) : ∃ h', Rt 35 [.ref 0, .long z, .int (nI a), .int (nI b)] h = some (some (.long (dgC n sl P Q K E b a z)), h') ∧ Sx [1, 2, 3, 4] h h' := by
  have h40 := c.2.2.2.2.2.2.2.1
  have wf := c.2.2.2.2.2.2.2
  have m2 : ∀ x ∈ [2], x ∈ [1, 2, 3, 4] := by decide
  have m1 : ∀ x ∈ [1], x ∈ [1, 2, 3, 4] := by decide
  have m3 : ∀ x ∈ [3], x ∈ [1, 2, 3, 4] := by decide
  obtain ⟨hA, a1, a2, a3, a4⟩ := r_paint c ha hb
  have cA := hc_sx c a2 (by decide)
  obtain ⟨hB, b1, b2, b3, b4, _⟩ := r_search cA ha hb false
  have cB := hc_sx cA b2 (by decide)
  obtain ⟨hC, c1, c2, c3, c4, _⟩ := r_search cB ha hb true
  have cC := hc_sx cB c2 (by decide)
  obtain ⟨hD, d1, d2, d3, d4⟩ := r_trace cC hb
  have cD := hc_sx cC d2 (by decide)
  obtain ⟨hE, e1, e2, e3, e4⟩ := r_paint cD ha (show 0 < n by omega)
  have cE := hc_sx cD e2 (by decide)
  obtain ⟨hF, f1, f2, f3, f4, _⟩ := r_search cE (show 0 < n by omega) ha false
  refine ⟨hF, ?_, sx_trans (sx_mono a2 m2) (sx_trans (sx_mono b2 m1) (sx_trans (sx_mono c2 m1) (sx_trans (sx_mono d2 m3) (sx_trans (sx_mono e2 m2) (sx_mono f2 m1)))))⟩
  have b1' : Rt 151 [.ref 8, .ref 1, .int (nI a), .int (nI b), .int 0] hA = some (none, hB) := b1
  have c1' : Rt 151 [.ref 8, .ref 1, .int (nI a), .int (nI b), .int 1] hB = some (none, hC) := c1
  have e1' : Rt 153 [.ref 10, .ref 1, .int (nI a), .int 0] hD = some (none, hE) := e1
  have f1' : Rt 151 [.ref 8, .ref 1, .int 0, .int (nI a), .int 0] hE = some (none, hF) := f1
  have hm := lkA_met (sl := sl) wf ha hb
  have mt : ∀ (u : Int64) (x5 : Int64) (o6 : Option Value), Ev 35 57 [some (.ref 0), some (.long z), none, some (.int (nI a)), some (.int (nI b)), some (.long x5), o6] [] hB = Ev 35 77 [some (.ref 0), some (.long z), none, some (.int (nI a)), some (.int (nI b)), some (.long x5), o6] [.long (31 * x5 + (lkB n sl P Q K E a b 0).toInt64)] hB := by
    intro u x5 o6
    rw [b35_57, b4]
    by_cases hq : bt (E b) a = true
    · rw [hm.mpr hq, i01_t, if_neg (by decide), b35_69, b35_74, r_mix, rL_some, lkB, if_pos rfl, if_pos hq]; rfl
    · rw [Bool.eq_false_iff.mpr (fun q => hq (hm.mp q)), i01_f, if_pos rfl, b35_73, b35_74, r_mix, rL_some, lkB, if_pos rfl, if_neg hq]; rfl
  show Ev 35 0 [some (.ref 0), some (.long z), none, some (.int (nI a)), some (.int (nI b)), none, none] [] h = _
  rw [b35_0, a1, rV_some, b35_14, a3, r_mix, rL_some, b35_25, a4, r_mix, rL_some, b35_40, b1', rV_some, mt 0, b35_77, b3, r_mix, rL_some, b35_92, c1', rV_some, b35_109, c3, r_mix, rL_some, b35_122, d1, rV_some, b35_137, r_waysTo (by omega), rL_some, d3 a ha, b35_147, r_mix, rL_some, b35_150, r_stepsTo (by omega), rI_some, d4 a ha, b35_162, r_mix, rL_some, b35_166, e1', rV_some, b35_181, e3, r_mix, rL_some, b35_193, f1', rV_some, b35_209, f3, r_mix, rL_some, b35_222]
  rfl
end DG
