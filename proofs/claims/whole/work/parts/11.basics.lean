/-! The class's small methods. -/
theorem r_bit {c : Nat} (hc : c < 40) (h : mH) : Rt 41 [.int (nI c)] h = some (some (.long (ob c)), h) := by
  show Ev 41 0 [some (.int (nI c))] [] h = _
  simp (disch := omega) only [b41_0, b41_4, b41_10, b41_16, b41_17, e10, e01, em10, eq_self, lt0_nI, ge0_nI, cl_nI, le_nI, lt_nI, eq_nI, ne_m1, le40, lt40, gd_nI, nI_1, yle, nle, ylt, nlt, reduceIte, if_true, if_false, and_true, true_and, and_false, false_and, or_true, true_or, or_false, false_or, not_true_eq_false, not_false_eq_true, rI_some, rL_some, rV_some, rA_ref, rA_null, b01, b01', i01, lcmp0, lcmp_lt, lcmp_gt, om1, m1_lt0, sh_ob']
theorem r_bit_no {x : Int32} (hx : x < 0) (h : mH) : Rt 41 [.int x] h = some (some (.long 0), h) := by
  show Ev 41 0 [some (.int x)] [] h = _
  simp (disch := omega) only [b41_0, b41_4, b41_10, b41_16, b41_17, e10, e01, em10, eq_self, lt0_nI, ge0_nI, cl_nI, le_nI, lt_nI, eq_nI, ne_m1, le40, lt40, gd_nI, nI_1, yle, nle, ylt, nlt, reduceIte, if_true, if_false, and_true, true_and, and_false, false_and, or_true, true_or, or_false, false_or, not_true_eq_false, not_false_eq_true, rI_some, rL_some, rV_some, rA_ref, rA_null, b01, b01', i01, lcmp0, lcmp_lt, lcmp_gt, om1, m1_lt0, hx]
theorem r_isIn {c : Nat} (hc : c < 40) (s : Int64) (h : mH) : Rt 42 [.long s, .int (nI c)] h = some (some (.int (if bt s c = true then 1 else 0)), h) := by
  show Ev 42 0 [some (.long s), none, some (.int (nI c))] [] h = _
  simp (disch := omega) only [b42_0, b42_5, b42_11, b42_15, b42_16, e10, e01, em10, eq_self, lt0_nI, ge0_nI, cl_nI, le_nI, lt_nI, eq_nI, ne_m1, le40, lt40, gd_nI, nI_1, yle, nle, ylt, nlt, reduceIte, if_true, if_false, and_true, true_and, and_false, false_and, or_true, true_or, or_false, false_or, not_true_eq_false, not_false_eq_true, rI_some, rL_some, rV_some, rA_ref, rA_null, b01, b01', i01, lcmp0, lcmp_lt, lcmp_gt, om1, m1_lt0, r_bit hc, bit_and]
  by_cases hb : bt s c = true <;> simp [hb]
/-- the greatest of a set -/
def gr (s : Int64) : Nat → Int32
  | 0 => -1
  | c + 1 => if bt s c = true then nI c else gr s c
theorem greatest_loop (s : Int64) (h : mH) : ∀ (c : Nat) (o : Option Value), c < 40 → Ev 43 3 [some (.long s), o, some (.int (nI c))] [] h = some (some (.int (gr s (c + 1))), h)
  | 0, o, hc => by
    rw [b43_3]
    simp (disch := omega) only [b43_0, b43_7, b43_12, b43_15, b43_17, b43_23, e10, e01, em10, eq_self, lt0_nI, ge0_nI, cl_nI, le_nI, lt_nI, eq_nI, ne_m1, le40, lt40, gd_nI, nI_1, yle, nle, ylt, nlt, reduceIte, if_true, if_false, and_true, true_and, and_false, false_and, or_true, true_or, or_false, false_or, not_true_eq_false, not_false_eq_true, rI_some, rL_some, rV_some, rA_ref, rA_null, b01, b01', i01, lcmp0, lcmp_lt, lcmp_gt, om1, m1_lt0, r_isIn hc, gr]
    by_cases hb : bt s 0 = true
    · simp [hb]
    · simp only [hb, not_false_eq_true, if_true, if_false]
      rw [show nI 0 + -1 = -1 from by decide, b43_3]
      simp [m1_lt0, b43_23]
  | c + 1, o, hc => by
    rw [b43_3]
    simp (disch := omega) only [b43_0, b43_7, b43_12, b43_15, b43_17, b43_23, e10, e01, em10, eq_self, lt0_nI, ge0_nI, cl_nI, le_nI, lt_nI, eq_nI, ne_m1, le40, lt40, gd_nI, nI_1, yle, nle, ylt, nlt, reduceIte, if_true, if_false, and_true, true_and, and_false, false_and, or_true, true_or, or_false, false_or, not_true_eq_false, not_false_eq_true, rI_some, rL_some, rV_some, rA_ref, rA_null, b01, b01', i01, lcmp0, lcmp_lt, lcmp_gt, om1, m1_lt0, r_isIn hc]
    rw [gr]
    by_cases hb : bt s (c + 1) = true
    · simp [hb]
    · simp only [hb, not_false_eq_true, if_true, if_false, nI_m1]
      exact greatest_loop s h c _ (by omega)
theorem r_greatestIn (s : Int64) (h : mH) : Rt 43 [.long s] h = some (some (.int (gr s 40)), h) := by
  show Ev 43 0 [some (.long s), none, none] [] h = _
  rw [b43_0]
  exact greatest_loop s h 39 _ (by omega)
/-- History -/
theorem r_holds {h : mH} {n c : Nat} (hn : gI h 1 6 = nI n) (h40 : n ≤ 40) (hc : c < 2147483648) : Rt 125 [.ref 1, .int (nI c)] h = some (some (.int (if c < n then 1 else 0)), h) := by
  show Ev 125 0 [some (.ref 1), some (.int (nI c))] [] h = _
  simp (disch := omega) only [b125_0, b125_4, b125_12, b125_16, b125_17, e10, e01, em10, eq_self, lt0_nI, ge0_nI, cl_nI, le_nI, lt_nI, eq_nI, ne_m1, le40, lt40, gd_nI, nI_1, yle, nle, ylt, nlt, reduceIte, if_true, if_false, and_true, true_and, and_false, false_and, or_true, true_or, or_false, false_or, not_true_eq_false, not_false_eq_true, rI_some, rL_some, rV_some, rA_ref, rA_null, b01, b01', i01, lcmp0, lcmp_lt, lcmp_gt, om1, m1_lt0, hn]
  by_cases hb : c < n
  · simp [hb, show ¬ n ≤ c by omega]
  · simp [hb, show n ≤ c by omega]
theorem r_holds_no {h : mH} {x : Int32} (hx : x < 0) : Rt 125 [.ref 1, .int x] h = some (some (.int 0), h) := by
  show Ev 125 0 [some (.ref 1), some (.int x)] [] h = _
  simp (disch := omega) only [b125_0, b125_4, b125_12, b125_16, b125_17, e10, e01, em10, eq_self, lt0_nI, ge0_nI, cl_nI, le_nI, lt_nI, eq_nI, ne_m1, le40, lt40, gd_nI, nI_1, yle, nle, ylt, nlt, reduceIte, if_true, if_false, and_true, true_and, and_false, false_and, or_true, true_or, or_false, false_or, not_true_eq_false, not_false_eq_true, rI_some, rL_some, rV_some, rA_ref, rA_null, b01, b01', i01, lcmp0, lcmp_lt, lcmp_gt, om1, m1_lt0, hx]
theorem r_rankOf {h : mH} {n c : Nat} (hn : gI h 1 6 = nI n) (h40 : n ≤ 40) (hc : c < n) : Rt 137 [.ref 1, .int (nI c)] h = some (some (.int (gI h 5 c)), h) := by
  show Ev 137 0 [some (.ref 1), some (.int (nI c))] [] h = _
  simp (disch := omega) only [b137_0, b137_5, b137_8, b137_14, b137_17, b137_18, e10, e01, em10, eq_self, lt0_nI, ge0_nI, cl_nI, le_nI, lt_nI, eq_nI, ne_m1, le40, lt40, gd_nI, nI_1, yle, nle, ylt, nlt, reduceIte, if_true, if_false, and_true, true_and, and_false, false_and, or_true, true_or, or_false, false_or, not_true_eq_false, not_false_eq_true, rI_some, rL_some, rV_some, rA_ref, rA_null, b01, b01', i01, lcmp0, lcmp_lt, lcmp_gt, om1, m1_lt0, r_holds hn h40]
theorem r_rankOf_no {h : mH} : Rt 137 [.ref 1, .int (-1)] h = some (some (.int 0), h) := by
  show Ev 137 0 [some (.ref 1), some (.int (-1))] [] h = _
  simp (disch := omega) only [b137_0, b137_5, b137_8, b137_14, b137_17, b137_18, e10, e01, em10, eq_self, lt0_nI, ge0_nI, cl_nI, le_nI, lt_nI, eq_nI, ne_m1, le40, lt40, gd_nI, nI_1, yle, nle, ylt, nlt, reduceIte, if_true, if_false, and_true, true_and, and_false, false_and, or_true, true_or, or_false, false_or, not_true_eq_false, not_false_eq_true, rI_some, rL_some, rV_some, rA_ref, rA_null, b01, b01', i01, lcmp0, lcmp_lt, lcmp_gt, om1, m1_lt0, r_holds_no (x := -1) (by decide)]
def gen (sl : Nat) (K : Nat → Int32) (c : Nat) : Int32 := if c < sl then K c else 99
theorem r_generationOf {h : mH} {n sl c : Nat} (hn : gI h 1 6 = nI n) (hs : gI h 1 7 = nI sl) (h40 : n ≤ 40) (hsl : sl ≤ n) (hc : c < n) : Rt 138 [.ref 1, .int (nI c)] h = some (some (.int (gen sl (gI h 5) c)), h) := by
  show Ev 138 0 [some (.ref 1), some (.int (nI c))] [] h = _
  simp (disch := omega) only [b138_0, b138_8, b138_13, b138_16, b138_18, e10, e01, em10, eq_self, lt0_nI, ge0_nI, cl_nI, le_nI, lt_nI, eq_nI, ne_m1, le40, lt40, gd_nI, nI_1, yle, nle, ylt, nlt, reduceIte, if_true, if_false, and_true, true_and, and_false, false_and, or_true, true_or, or_false, false_or, not_true_eq_false, not_false_eq_true, rI_some, rL_some, rV_some, rA_ref, rA_null, b01, b01', i01, lcmp0, lcmp_lt, lcmp_gt, om1, m1_lt0, hs, r_rankOf hn h40 hc, gen]
  by_cases hb : c < sl
  · simp [hb, show ¬ sl ≤ c by omega]
  · simp [hb, show sl ≤ c by omega]
theorem r_reachOf {h : mH} {n c : Nat} (hn : gI h 1 6 = nI n) (h40 : n ≤ 40) (hc : c < n) : Rt 139 [.ref 1, .int (nI c)] h = some (some (.long (gJ h 6 c)), h) := by
  show Ev 139 0 [some (.ref 1), some (.int (nI c))] [] h = _
  simp (disch := omega) only [b139_0, b139_5, b139_8, b139_14, b139_17, b139_18, e10, e01, em10, eq_self, lt0_nI, ge0_nI, cl_nI, le_nI, lt_nI, eq_nI, ne_m1, le40, lt40, gd_nI, nI_1, yle, nle, ylt, nlt, reduceIte, if_true, if_false, and_true, true_and, and_false, false_and, or_true, true_or, or_false, false_or, not_true_eq_false, not_false_eq_true, rI_some, rL_some, rV_some, rA_ref, rA_null, b01, b01', i01, lcmp0, lcmp_lt, lcmp_gt, om1, m1_lt0, r_holds hn h40]
theorem r_reachOf_no {h : mH} : Rt 139 [.ref 1, .int (-1)] h = some (some (.long 0), h) := by
  show Ev 139 0 [some (.ref 1), some (.int (-1))] [] h = _
  simp (disch := omega) only [b139_0, b139_5, b139_8, b139_14, b139_17, b139_18, e10, e01, em10, eq_self, lt0_nI, ge0_nI, cl_nI, le_nI, lt_nI, eq_nI, ne_m1, le40, lt40, gd_nI, nI_1, yle, nle, ylt, nlt, reduceIte, if_true, if_false, and_true, true_and, and_false, false_and, or_true, true_or, or_false, false_or, not_true_eq_false, not_false_eq_true, rI_some, rL_some, rV_some, rA_ref, rA_null, b01, b01', i01, lcmp0, lcmp_lt, lcmp_gt, om1, m1_lt0, r_holds_no (x := -1) (by decide)]
theorem r_firstParent {h : mH} {n c : Nat} (hn : gI h 1 6 = nI n) (h40 : n ≤ 40) (hc : c < n) : Rt 133 [.ref 1, .int (nI c)] h = some (some (.int (gI h 2 c)), h) := by
  show Ev 133 0 [some (.ref 1), some (.int (nI c))] [] h = _
  simp (disch := omega) only [b133_0, b133_5, b133_8, b133_14, b133_17, b133_18, e10, e01, em10, eq_self, lt0_nI, ge0_nI, cl_nI, le_nI, lt_nI, eq_nI, ne_m1, le40, lt40, gd_nI, nI_1, yle, nle, ylt, nlt, reduceIte, if_true, if_false, and_true, true_and, and_false, false_and, or_true, true_or, or_false, false_or, not_true_eq_false, not_false_eq_true, rI_some, rL_some, rV_some, rA_ref, rA_null, b01, b01', i01, lcmp0, lcmp_lt, lcmp_gt, om1, m1_lt0, r_holds hn h40]
theorem r_secondParent {h : mH} {n c : Nat} (hn : gI h 1 6 = nI n) (h40 : n ≤ 40) (hc : c < n) : Rt 134 [.ref 1, .int (nI c)] h = some (some (.int (gI h 3 c)), h) := by
  show Ev 134 0 [some (.ref 1), some (.int (nI c))] [] h = _
  simp (disch := omega) only [b134_0, b134_5, b134_8, b134_14, b134_17, b134_18, e10, e01, em10, eq_self, lt0_nI, ge0_nI, cl_nI, le_nI, lt_nI, eq_nI, ne_m1, le40, lt40, gd_nI, nI_1, yle, nle, ylt, nlt, reduceIte, if_true, if_false, and_true, true_and, and_false, false_and, or_true, true_or, or_false, false_or, not_true_eq_false, not_false_eq_true, rI_some, rL_some, rV_some, rA_ref, rA_null, b01, b01', i01, lcmp0, lcmp_lt, lcmp_gt, om1, m1_lt0, r_holds hn h40]
/-- a parent's number: none, or of less -/
def okp (v : Int32) (c : Nat) : Prop := v = -1 ∨ ∃ p, p < c ∧ v = nI p
def pb (v : Int32) : Int64 := if v = -1 then 0 else ob v.toNatClampNeg
theorem pb_m1 : pb (-1) = 0 := by simp [pb]
theorem pb_nI {p : Nat} (hp : p < 2147483648) : pb (nI p) = ob p := by
  unfold pb
  rw [if_neg (by rw [ne_m1 hp]; exact id), cl_nI hp]
theorem r_bit_p {v : Int32} {c : Nat} (hv : okp v c) (hc : c ≤ 40) (h : mH) : Rt 41 [.int v] h = some (some (.long (pb v)), h) := by
  rcases hv with rfl | ⟨p, hp, rfl⟩
  · rw [r_bit_no (by decide), pb_m1]
  · rw [r_bit (by omega), pb_nI (by omega)]
theorem r_parentsOf {h : mH} {n c : Nat} (hn : gI h 1 6 = nI n) (h40 : n ≤ 40) (hc : c < n) (hp : okp (gI h 2 c) c) (hq : okp (gI h 3 c) c) : Rt 135 [.ref 1, .int (nI c)] h = some (some (.long (pb (gI h 2 c) ||| pb (gI h 3 c))), h) := by
  show Ev 135 0 [some (.ref 1), some (.int (nI c))] [] h = _
  simp (disch := omega) only [b135_0, b135_5, b135_8, b135_13, b135_16, e10, e01, em10, eq_self, lt0_nI, ge0_nI, cl_nI, le_nI, lt_nI, eq_nI, ne_m1, le40, lt40, gd_nI, nI_1, yle, nle, ylt, nlt, reduceIte, if_true, if_false, and_true, true_and, and_false, false_and, or_true, true_or, or_false, false_or, not_true_eq_false, not_false_eq_true, rI_some, rL_some, rV_some, rA_ref, rA_null, b01, b01', i01, lcmp0, lcmp_lt, lcmp_gt, om1, m1_lt0, r_firstParent hn h40 hc, r_secondParent hn h40 hc, r_bit_p hp (by omega : c ≤ 40), r_bit_p hq (by omega : c ≤ 40)]
