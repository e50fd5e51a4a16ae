/-! The model's small methods. -/
theorem w64_le (a b : Int32) : (a.toInt64 ≤ b.toInt64) = (a ≤ b) := by
  rw [Int64.le_iff_toInt_le, Int32.le_iff_toInt_le, Int32.toInt_toInt64, Int32.toInt_toInt64]
theorem w64_lt (a b : Int32) : (a.toInt64 < b.toInt64) = (a < b) := by
  rw [Int64.lt_iff_toInt_lt, Int32.lt_iff_toInt_lt, Int32.toInt_toInt64, Int32.toInt_toInt64]
theorem w0 : (0 : Int64) = (0 : Int32).toInt64 := by decide
theorem r_in (a b c : Int64) (h : mH) : Rt 44 [.long a, .long b, .long c] h = some (some (.int (if a < b ∨ c < a then 0 else 1)), h) := by
  show Ev 44 0 [some (.long a), none, some (.long b), none, some (.long c), none] [] h = _
  simp only [b44_0, b44_6, b44_13, b44_17, b44_18, e10, e01, em10, eq_self, lt0_nI, ge0_nI, cl_nI, le_nI, lt_nI, eq_nI, ne_m1, le40, lt40, gd_nI, nI_1, yle, nle, ylt, nlt, reduceIte, if_true, if_false, and_true, true_and, and_false, false_and, or_true, true_or, or_false, false_or, not_true_eq_false, not_false_eq_true, rI_some, rL_some, rV_some, rA_ref, rA_null, b01, b01', i01, lcmp0, lcmp_lt, lcmp_gt, om1, m1_lt0]
  by_cases h1 : a < b
  · simp [h1]
  · by_cases h2 : c < a <;> simp [h1, h2]
theorem r_mholds {c : Nat} (hc : c < 40) (s : Int64) (h : mH) : Rt 59 [.long s, .int (nI c)] h = some (some (.int (if bt s c = true then 1 else 0)), h) := by
  show Ev 59 0 [some (.long s), none, some (.int (nI c))] [] h = _
  simp (disch := omega) only [b59_0, b59_10, b59_14, b59_15, e10, e01, em10, eq_self, lt0_nI, ge0_nI, cl_nI, le_nI, lt_nI, eq_nI, ne_m1, le40, lt40, gd_nI, nI_1, yle, nle, ylt, nlt, reduceIte, if_true, if_false, and_true, true_and, and_false, false_and, or_true, true_or, or_false, false_or, not_true_eq_false, not_false_eq_true, rI_some, rL_some, rV_some, rA_ref, rA_null, b01, b01', i01, lcmp0, lcmp_lt, lcmp_gt, om1, m1_lt0, hold_eq]
  by_cases hb : bt s c = true <;> simp [hb]
theorem manyOf_loop (s : Int64) (h : mH) : ∀ (k c : Nat) (o : Option Value), c + k = 40 → Ev 60 4 [some (.long s), o, some (.int (nI (ct s c))), some (.int (nI c))] [] h = some (some (.int (nI (ct s 40))), h)
  | 0, c, o, hk => by
    obtain rfl : c = 40 := by omega
    rw [b60_4]
    simp (disch := omega) only [b60_32, e10, e01, em10, eq_self, lt0_nI, ge0_nI, cl_nI, le_nI, lt_nI, eq_nI, ne_m1, le40, lt40, gd_nI, nI_1, yle, nle, ylt, nlt, reduceIte, if_true, if_false, and_true, true_and, and_false, false_and, or_true, true_or, or_false, false_or, not_true_eq_false, not_false_eq_true, rI_some, rL_some, rV_some, rA_ref, rA_null, b01, b01', i01, lcmp0, lcmp_lt, lcmp_gt, om1, m1_lt0]
  | k + 1, c, o, hk => by
    rw [b60_4]
    simp (disch := omega) only [b60_0, b60_10, b60_16, b60_19, b60_23, b60_24, b60_32, e10, e01, em10, eq_self, lt0_nI, ge0_nI, cl_nI, le_nI, lt_nI, eq_nI, ne_m1, le40, lt40, gd_nI, nI_1, yle, nle, ylt, nlt, reduceIte, if_true, if_false, and_true, true_and, and_false, false_and, or_true, true_or, or_false, false_or, not_true_eq_false, not_false_eq_true, rI_some, rL_some, rV_some, rA_ref, rA_null, b01, b01', i01, lcmp0, lcmp_lt, lcmp_gt, om1, m1_lt0, r_mholds (show c < 40 by omega)]
    by_cases hb : bt s c = true
    · simp only [hb, not_true_eq_false, if_false]
      refine Eq.trans ?_ (manyOf_loop s h k (c + 1) ?_ (by omega))
      rw [ct, if_pos hb]
    · simp only [hb, Bool.false_eq_true, not_false_eq_true, if_true, if_false]
      refine Eq.trans ?_ (manyOf_loop s h k (c + 1) ?_ (by omega))
      rw [show ct s (c + 1) = ct s c by simp [ct, hb], Int32.add_zero]
theorem r_manyOf (s : Int64) (h : mH) : Rt 60 [.long s] h = some (some (.int (nI (ct s 40))), h) := by
  show Ev 60 0 [some (.long s), none, none, none] [] h = _
  rw [b60_0]
  exact manyOf_loop s h 40 0 _ (by omega)
theorem m1_toInt {n : Nat} (hn : n ≤ 40) : (nI n - 1).toInt = (n : Int) - 1 := by
  have := pk_sub_toInt (a := n) (b := 1) (by omega) (by omega)
  exact this
theorem gt_m1 {n : Nat} (hn : n ≤ 40) (x : Int32) : ((nI n - 1).toInt64 < x.toInt64) = (nI n ≤ x) := by
  rw [w64_lt, Int32.lt_iff_toInt_lt, Int32.le_iff_toInt_le, m1_toInt hn, nI_toInt (by omega)]
  exact propext (by omega)
theorem r_isCommit {h : mH} {n : Nat} (hn : gI h 27 5 = nI n) (h40 : n ≤ 40) (x : Int32) : Rt 58 [.ref 27, .int x] h = some (some (.int (if x < 0 ∨ nI n ≤ x then 0 else 1)), h) := by
  show Ev 58 0 [some (.ref 27), some (.int x)] [] h = _
  simp only [b58_0, b58_13, hn, r_in, rI_some, w0, w64_lt, gt_m1 h40]
  by_cases h1 : x < 0 ∨ nI n ≤ x <;> simp [h1]
theorem r_isCommit_c {h : mH} {n c : Nat} (hn : gI h 27 5 = nI n) (h40 : n ≤ 40) (hc : c < 2147483648) : Rt 58 [.ref 27, .int (nI c)] h = some (some (.int (if c < n then 1 else 0)), h) := by
  rw [r_isCommit hn h40]
  simp (disch := omega) only [e10, e01, em10, eq_self, lt0_nI, ge0_nI, cl_nI, le_nI, lt_nI, eq_nI, ne_m1, le40, lt40, gd_nI, nI_1, yle, nle, ylt, nlt, reduceIte, if_true, if_false, and_true, true_and, and_false, false_and, or_true, true_or, or_false, false_or, not_true_eq_false, not_false_eq_true, rI_some, rL_some, rV_some, rA_ref, rA_null, b01, b01', i01, lcmp0, lcmp_lt, lcmp_gt, om1, m1_lt0]
  by_cases h1 : c < n
  · simp [h1, show ¬ n ≤ c by omega]
  · simp [h1, show n ≤ c by omega]
theorem r_isCommit_no {h : mH} {n : Nat} {x : Int32} (hn : gI h 27 5 = nI n) (h40 : n ≤ 40) (hx : x < 0) : Rt 58 [.ref 27, .int x] h = some (some (.int 0), h) := by
  rw [r_isCommit hn h40]; simp [hx]
theorem r_generation {h : mH} {n sl c : Nat} (hs : gI h 27 10 = nI sl) (h40 : n ≤ 40) (hsl : sl ≤ n) (hc : c < n) : Rt 69 [.ref 27, .int (nI c)] h = some (some (.int (gen sl (gI h 34) c)), h) := by
  show Ev 69 0 [some (.ref 27), some (.int (nI c))] [] h = _
  simp (disch := omega) only [b69_0, b69_8, b69_14, b69_17, b69_19, e10, e01, em10, eq_self, lt0_nI, ge0_nI, cl_nI, le_nI, lt_nI, eq_nI, ne_m1, le40, lt40, gd_nI, nI_1, yle, nle, ylt, nlt, reduceIte, if_true, if_false, and_true, true_and, and_false, false_and, or_true, true_or, or_false, false_or, not_true_eq_false, not_false_eq_true, rI_some, rL_some, rV_some, rA_ref, rA_null, b01, b01', i01, lcmp0, lcmp_lt, lcmp_gt, om1, m1_lt0, hs, gen]
  by_cases hb : c < sl
  · simp [hb, show ¬ sl ≤ c by omega]
  · simp [hb, show sl ≤ c by omega]
theorem r_parent0 {h : mH} {c : Nat} (hc : c < 40) : Rt 73 [.ref 27, .int (nI c), .int 0] h = some (some (.int (gI h 32 c)), h) := by
  show Ev 73 0 [some (.ref 27), some (.int (nI c)), some (.int 0)] [] h = _
  simp (disch := omega) only [b73_0, b73_4, b73_10, b73_13, b73_19, e10, e01, em10, eq_self, lt0_nI, ge0_nI, cl_nI, le_nI, lt_nI, eq_nI, ne_m1, le40, lt40, gd_nI, nI_1, yle, nle, ylt, nlt, reduceIte, if_true, if_false, and_true, true_and, and_false, false_and, or_true, true_or, or_false, false_or, not_true_eq_false, not_false_eq_true, rI_some, rL_some, rV_some, rA_ref, rA_null, b01, b01', i01, lcmp0, lcmp_lt, lcmp_gt, om1, m1_lt0]
theorem r_parent1 {h : mH} {c : Nat} (hc : c < 40) : Rt 73 [.ref 27, .int (nI c), .int 1] h = some (some (.int (gI h 33 c)), h) := by
  show Ev 73 0 [some (.ref 27), some (.int (nI c)), some (.int 1)] [] h = _
  simp (disch := omega) only [b73_0, b73_4, b73_10, b73_13, b73_19, e10, e01, em10, eq_self, lt0_nI, ge0_nI, cl_nI, le_nI, lt_nI, eq_nI, ne_m1, le40, lt40, gd_nI, nI_1, yle, nle, ylt, nlt, reduceIte, if_true, if_false, and_true, true_and, and_false, false_and, or_true, true_or, or_false, false_or, not_true_eq_false, not_false_eq_true, rI_some, rL_some, rV_some, rA_ref, rA_null, b01, b01', i01, lcmp0, lcmp_lt, lcmp_gt, om1, m1_lt0]
theorem sh_pb {v : Int32} {c : Nat} (hv : okp v c) (hc : c ≤ 40) (h1 : ¬ v = -1) : (1 : Int64) <<< (v.toInt64 &&& 63) = pb v := by
  rcases hv with rfl | ⟨p, hp, rfl⟩
  · exact absurd rfl h1
  · rw [sh_ob' (by omega), pb_nI (by omega)]
theorem l20 : ((2 : Int32) ≤ 0) = False := by decide
theorem l21 : ((2 : Int32) ≤ 1) = False := by decide
theorem l22 : ((2 : Int32) ≤ 2) = True := by decide
theorem a01 : (0 : Int32) + 1 = 1 := by decide
theorem a11 : (1 : Int32) + 1 = 2 := by decide
/-- model: one turn over the two parents -/
theorem reach_turn {h : mH} {d : Nat} (hd : d < 40) (hp : okp (gI h 32 d) d) (hq : okp (gI h 33 d) d) (x s : _) (o o5 o6 : Option Value) : ∃ o' o5' o6', Ev 74 12 [some (.ref 27), some (.int x), some (.long s), o, some (.int (nI d)), o5, o6] [] h = Ev 74 7 [some (.ref 27), some (.int x), some (.long (if bt s d = true then (s ||| pb (gI h 32 d)) ||| pb (gI h 33 d) else s)), o', some (.int (nI d + -1)), o5', o6'] [] h := by
  have key : ∀ (s : Int64) (v : Int32), okp v d → (if bt s d = true then if v = -1 then s ||| 0 else s ||| (1 : Int64) <<< (v.toInt64 &&& 63) else s ||| 0) = (if bt s d = true then s ||| pb v else s) := by
    intro s v hv
    by_cases hb : bt s d = true
    · by_cases h1 : v = -1
      · rw [if_pos hb, if_pos hb, if_pos h1, h1, pb_m1]
      · rw [if_pos hb, if_pos hb, if_neg h1, sh_pb hv (by omega) h1]
    · rw [if_neg hb, if_neg hb, Int64.or_zero]
  have keep : bt (if bt s d = true then s ||| pb (gI h 32 d) else s) d = bt s d := by
    by_cases hb : bt s d = true
    · rw [if_pos hb, bt_or, hb]; rfl
    · rw [if_neg hb]
  have one : ∀ (s : Int64) (o o6 : Option Value), ∃ o' o6', Ev 74 21 [some (.ref 27), some (.int x), some (.long s), o, some (.int (nI d)), some (.int 0), o6] [] h = Ev 74 15 [some (.ref 27), some (.int x), some (.long (if bt s d = true then s ||| pb (gI h 32 d) else s)), o', some (.int (nI d)), some (.int 1), o6'] [] h := by
    intro s o o6
    refine ⟨none, some (.int (gI h 32 d)), ?_⟩
    rw [← key s _ hp]
    simp (disch := omega) only [b74_0, b74_21, b74_29, b74_38, b74_41, b74_47, b74_54, b74_55, b74_63, b74_69, e10, e01, em10, eq_self, lt0_nI, ge0_nI, cl_nI, le_nI, lt_nI, eq_nI, ne_m1, le40, lt40, gd_nI, nI_1, yle, nle, ylt, nlt, reduceIte, if_true, if_false, and_true, true_and, and_false, false_and, or_true, true_or, or_false, false_or, not_true_eq_false, not_false_eq_true, rI_some, rL_some, rV_some, rA_ref, rA_null, b01, b01', i01, lcmp0, lcmp_lt, lcmp_gt, om1, m1_lt0, r_parent0 hd, r_mholds hd, a01]
    by_cases hb : bt s d = true
    · by_cases h1 : gI h 32 d = -1
      · simp only [hb, h1, not_true_eq_false, if_false, if_true]
      · simp only [hb, h1, not_true_eq_false, if_false, if_true]
    · simp only [hb, Bool.false_eq_true, not_false_eq_true, if_true, if_false]
  have two : ∀ (s : Int64) (o o6 : Option Value), ∃ o' o6', Ev 74 21 [some (.ref 27), some (.int x), some (.long s), o, some (.int (nI d)), some (.int 1), o6] [] h = Ev 74 15 [some (.ref 27), some (.int x), some (.long (if bt s d = true then s ||| pb (gI h 33 d) else s)), o', some (.int (nI d)), some (.int 2), o6'] [] h := by
    intro s o o6
    refine ⟨none, some (.int (gI h 33 d)), ?_⟩
    rw [← key s _ hq]
    simp (disch := omega) only [b74_0, b74_21, b74_29, b74_38, b74_41, b74_47, b74_54, b74_55, b74_63, b74_69, e10, e01, em10, eq_self, lt0_nI, ge0_nI, cl_nI, le_nI, lt_nI, eq_nI, ne_m1, le40, lt40, gd_nI, nI_1, yle, nle, ylt, nlt, reduceIte, if_true, if_false, and_true, true_and, and_false, false_and, or_true, true_or, or_false, false_or, not_true_eq_false, not_false_eq_true, rI_some, rL_some, rV_some, rA_ref, rA_null, b01, b01', i01, lcmp0, lcmp_lt, lcmp_gt, om1, m1_lt0, r_parent1 hd, r_mholds hd, a11]
    by_cases hb : bt s d = true
    · by_cases h1 : gI h 33 d = -1
      · simp only [hb, h1, not_true_eq_false, if_false, if_true]
      · simp only [hb, h1, not_true_eq_false, if_false, if_true]
    · simp only [hb, Bool.false_eq_true, not_false_eq_true, if_true, if_false]
  obtain ⟨o1, q1, e1⟩ := one s o o6
  obtain ⟨o2, q2, e2⟩ := two _ o1 q1
  refine ⟨kil o2, some (.int 2), q2, ?_⟩
  rw [b74_12, b74_15, if_neg (show ¬ (2 : Int32) ≤ 0 by decide), e1, b74_15, if_neg (show ¬ (2 : Int32) ≤ 1 by decide), e2, b74_15, if_pos (show (2 : Int32) ≤ 2 by decide), b74_63, om1, keep]
  · by_cases hb : bt s d = true
    · simp only [hb, if_true]
    · simp only [hb, Bool.false_eq_true, if_false]
theorem reach_loop {h : mH} {n : Nat} (h40 : n ≤ 40) (hp : ∀ d, d < n → okp (gI h 32 d) d ∧ okp (gI h 33 d) d) (x : Int32) : ∀ (d : Nat) (s : Int64) (o o5 o6 : Option Value), d < n → Ev 74 7 [some (.ref 27), some (.int x), some (.long s), o, some (.int (nI d)), o5, o6] [] h = some (some (.long (rl (gI h 32) (gI h 33) (d + 1) s)), h)
  | 0, s, o, o5, o6, hd => by
    obtain ⟨o', o5', o6', e⟩ := reach_turn (h := h) (d := 0) (by omega) (hp 0 hd).1 (hp 0 hd).2 x s o o5 o6
    rw [b74_7, if_neg (nI_pos (by omega)), e, show nI 0 + -1 = -1 from by decide, b74_7, if_pos (show (-1 : Int32) < 0 by decide), b74_69]
    rfl
  | d + 1, s, o, o5, o6, hd => by
    obtain ⟨o', o5', o6', e⟩ := reach_turn (h := h) (d := d + 1) (by omega) (hp _ hd).1 (hp _ hd).2 x s o o5 o6
    rw [b74_7, if_neg (nI_pos (by omega)), e, nI_m1]
    exact reach_loop h40 hp x d _ _ _ _ (by omega)
theorem r_mreachOf {h : mH} {n c : Nat} {K : Nat → Int32} {E : Nat → Int64} (w : WF n (gI h 32) (gI h 33) K E) (hc : c < n) : Rt 74 [.ref 27, .int (nI c)] h = some (some (.long (E c)), h) := by
  have h40 := w.1
  show Ev 74 0 [some (.ref 27), some (.int (nI c)), none, none, none, none, none] [] h = _
  rw [b74_0, sh_ob' (by omega), reach_loop h40 (fun d hd => ⟨(w.2 d hd).1, (w.2 d hd).2.1⟩) (nI c) c (ob c) _ _ _ hc, w_rl0 w hc]
