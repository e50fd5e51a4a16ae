/-! KEPT sets: roots and shares. -/
theorem rv_m1 (E : Nat → Int64) : rv E (-1) = 0 := by simp [rv]
theorem rv_nI (E : Nat → Int64) {d : Nat} (hd : d < 2147483648) : rv E (nI d) = E d := by
  rw [rv, if_neg (by rw [ne_m1 hd]; exact id), cl_nI hd]
def kp (ev c : Nat) : Bool := decide ((c + 1) % ev = 0)
theorem ni0 {a : Nat} (h : a < 2147483648) : (nI a = 0) = (a = 0) := eq_nI (b := 0) h (by omega)
theorem le_ni0 {a : Nat} (h : a < 2147483648) : (nI a ≤ 0) = (a ≤ 0) := le_nI (b := 0) h (by omega)
theorem rem_nI {c ev : Nat} (hc : c < 2147483647) (h1 : 1 ≤ ev) (h2 : ev ≤ 10) : (nI (c + 1)) - (nI (c + 1)) / nI ev * nI ev = nI ((c + 1) % ev) := pk_rem (by omega) (by omega) (by omega)
theorem r_isKept {h : mH} {ev c : Nat} (he : gI h 14 0 = nI ev) (h1 : 1 ≤ ev) (h2 : ev ≤ 10) (hc : c < 40) : Rt 146 [.ref 14, .int (nI c)] h = some (some (.int (i01f (kp ev c))), h) := by
  show Ev 146 0 [some (.ref 14), some (.int (nI c))] [] h = _
  have hm : (c + 1) % ev < ev := Nat.mod_lt _ (by omega)
  simp (disch := omega) only [b146_0, b146_7, b146_15, b146_18, b146_22, b146_23, e10, e01, em10, eq_self, lt0_nI, ge0_nI, cl_nI, le_nI, lt_nI, eq_nI, ne_m1, le40, lt40, gd_nI, nI_1, yle, nle, ylt, nlt, reduceIte, if_true, if_false, and_true, true_and, and_false, false_and, or_true, true_or, or_false, false_or, not_true_eq_false, not_false_eq_true, rI_some, rL_some, rV_some, rA_ref, rA_null, b01, b01', i01, lcmp0, lcmp_lt, lcmp_gt, om1, m1_lt0, he, le_ni0, ni0, rem_nI, neqN, kp, i01f]
  by_cases hb : (c + 1) % ev = 0 <;> simp [hb]
theorem r_misKept {h : mH} {ev c : Nat} (he : gI h 27 13 = nI ev) (h1 : 1 ≤ ev) (h2 : ev ≤ 10) (hc : c < 40) : Rt 89 [.ref 27, .int (nI c)] h = some (some (.int (i01f (kp ev c))), h) := by
  show Ev 89 0 [some (.ref 27), some (.int (nI c))] [] h = _
  have hm : (c + 1) % ev < ev := Nat.mod_lt _ (by omega)
  simp (disch := omega) only [b89_0, b89_8, b89_11, b89_15, b89_16, e10, e01, em10, eq_self, lt0_nI, ge0_nI, cl_nI, le_nI, lt_nI, eq_nI, ne_m1, le40, lt40, gd_nI, nI_1, yle, nle, ylt, nlt, reduceIte, if_true, if_false, and_true, true_and, and_false, false_and, or_true, true_or, or_false, false_or, not_true_eq_false, not_false_eq_true, rI_some, rL_some, rV_some, rA_ref, rA_null, b01, b01', i01, lcmp0, lcmp_lt, lcmp_gt, om1, m1_lt0, he, ni0, rem_nI, neqN, kp, i01f]
  by_cases hb : (c + 1) % ev = 0 <;> simp [hb]
theorem i01_eq (b : Bool) : (i01f b = 0) = (b = false) := by cases b <;> simp [i01f]
def rtF (ev : Nat) (s : Int64) : Nat → Int32
  | 0 => -1
  | r + 1 => if (kp ev r && bt s r) = true then nI r else rtF ev s r
theorem rtF_or (ev : Nat) (s : Int64) : ∀ c, rtF ev s c = -1 ∨ ∃ d, d < c ∧ rtF ev s c = nI d
  | 0 => Or.inl rfl
  | c + 1 => by
    unfold rtF
    split
    · exact Or.inr ⟨c, by omega, rfl⟩
    · rcases rtF_or ev s c with h | ⟨d, h1, h2⟩
      · exact Or.inl h
      · exact Or.inr ⟨d, by omega, h2⟩
section KE
variable {n sl ev : Nat} {P Q K : Nat → Int32} {E : Nat → Int64}
theorem sub_E (w : WF n P Q K E) {c : Nat} (hc : c < n) : sub (E c) n := fun j _ h => by have := w_le w c hc j h; omega
theorem rootOf_loop {h : mH} (w : HC h n sl P Q K E) (he : gI h 14 0 = nI ev) (h1 : 1 ≤ ev) (h2 : ev ≤ 10) {c : Nat} (hc : c < n) : ∀ r, r < c → Ev 147 4 [some (.ref 14), some (.ref 1), some (.int (nI c)), some (.int (nI r))] [] h = some (some (.int (rtF ev (E c) (r + 1))), h) := by
  have h40 := w.2.2.2.2.2.2.2.1
  have last : Ev 147 4 [some (.ref 14), some (.ref 1), some (.int (nI c)), some (.int (-1))] [] h = some (some (.int (-1)), h) := by
    simp only [b147_4, b147_36, e10, e01, em10, eq_self, lt0_nI, ge0_nI, cl_nI, le_nI, lt_nI, eq_nI, ne_m1, le40, lt40, gd_nI, nI_1, yle, nle, ylt, nlt, reduceIte, if_true, if_false, and_true, true_and, and_false, false_and, or_true, true_or, or_false, false_or, not_true_eq_false, not_false_eq_true, rI_some, rL_some, rV_some, rA_ref, rA_null, b01, b01', i01, lcmp0, lcmp_lt, lcmp_gt, om1, m1_lt0]
  intro r
  induction r with
  | zero =>
    intro hr
    rw [b147_4]
    simp (disch := omega) only [b147_0, b147_8, b147_13, b147_16, b147_21, b147_25, b147_28, b147_30, b147_36, e10, e01, em10, eq_self, lt0_nI, ge0_nI, cl_nI, le_nI, lt_nI, eq_nI, ne_m1, le40, lt40, gd_nI, nI_1, yle, nle, ylt, nlt, reduceIte, if_true, if_false, and_true, true_and, and_false, false_and, or_true, true_or, or_false, false_or, not_true_eq_false, not_false_eq_true, rI_some, rL_some, rV_some, rA_ref, rA_null, b01, b01', i01, lcmp0, lcmp_lt, lcmp_gt, om1, m1_lt0, r_isKept he h1 h2 (show 0 < 40 by omega), c_reach w hc, r_isIn (show 0 < 40 by omega), i01_eq, show nI 0 + -1 = -1 from by decide, last]
    rw [rtF, rtF]
    cases kp ev 0 <;> cases bt (E c) 0 <;> simp
  | succ r ih =>
    intro hr
    rw [b147_4]
    simp (disch := omega) only [b147_0, b147_8, b147_13, b147_16, b147_21, b147_25, b147_28, b147_30, b147_36, e10, e01, em10, eq_self, lt0_nI, ge0_nI, cl_nI, le_nI, lt_nI, eq_nI, ne_m1, le40, lt40, gd_nI, nI_1, yle, nle, ylt, nlt, reduceIte, if_true, if_false, and_true, true_and, and_false, false_and, or_true, true_or, or_false, false_or, not_true_eq_false, not_false_eq_true, rI_some, rL_some, rV_some, rA_ref, rA_null, b01, b01', i01, lcmp0, lcmp_lt, lcmp_gt, om1, m1_lt0, r_isKept he h1 h2 (show r + 1 < 40 by omega), c_reach w hc, r_isIn (show r + 1 < 40 by omega), i01_eq, nI_m1, ih (by omega)]
    rw [show rtF ev (E c) (r + 1 + 1) = if (kp ev (r + 1) && bt (E c) (r + 1)) = true then nI (r + 1) else rtF ev (E c) (r + 1) from rfl]
    cases kp ev (r + 1) <;> cases bt (E c) (r + 1) <;> simp
theorem r_rootOf {h : mH} (w : HC h n sl P Q K E) (he : gI h 14 0 = nI ev) (h1 : 1 ≤ ev) (h2 : ev ≤ 10) {c : Nat} (hc : c < n) : Rt 147 [.ref 14, .ref 1, .int (nI c)] h = some (some (.int (rtF ev (E c) c)), h) := by
  have h40 := w.2.2.2.2.2.2.2.1
  show Ev 147 0 [some (.ref 14), some (.ref 1), some (.int (nI c)), none] [] h = _
  rw [b147_0]
  cases c with
  | zero =>
    rw [show nI 0 - 1 = -1 from by decide]
    simp only [b147_4, b147_36, e10, e01, em10, eq_self, lt0_nI, ge0_nI, cl_nI, le_nI, lt_nI, eq_nI, ne_m1, le40, lt40, gd_nI, nI_1, yle, nle, ylt, nlt, reduceIte, if_true, if_false, and_true, true_and, and_false, false_and, or_true, true_or, or_false, false_or, not_true_eq_false, not_false_eq_true, rI_some, rL_some, rV_some, rA_ref, rA_null, b01, b01', i01, lcmp0, lcmp_lt, lcmp_gt, om1, m1_lt0]; rfl
  | succ c => rw [nI_pred]; exact rootOf_loop w he h1 h2 hc c (by omega)
theorem mroot_loop {h : mH} (w : HM h n sl P Q K E) (he : gI h 27 13 = nI ev) (h1 : 1 ≤ ev) (h2 : ev ≤ 10) {c : Nat} (hc : c < n) : ∀ (k d : Nat) (o : Option Value), d + k = c → Ev 90 12 [some (.ref 27), some (.int (nI c)), some (.long (E c)), o, some (.int (rtF ev (E c) d)), some (.int (nI d))] [] h = some (some (.int (rtF ev (E c) c)), h)
  | 0, d, o, hk => by
    have h40 := w.2.2.2.2.2.2.1
    obtain rfl : d = c := by omega
    rw [b90_12]
    simp (disch := omega) only [b90_51, e10, e01, em10, eq_self, lt0_nI, ge0_nI, cl_nI, le_nI, lt_nI, eq_nI, ne_m1, le40, lt40, gd_nI, nI_1, yle, nle, ylt, nlt, reduceIte, if_true, if_false, and_true, true_and, and_false, false_and, or_true, true_or, or_false, false_or, not_true_eq_false, not_false_eq_true, rI_some, rL_some, rV_some, rA_ref, rA_null, b01, b01', i01, lcmp0, lcmp_lt, lcmp_gt, om1, m1_lt0]
  | k + 1, d, o, hk => by
    have h40 := w.2.2.2.2.2.2.1
    rw [b90_12]
    simp (disch := omega) only [b90_0, b90_5, b90_18, b90_24, b90_27, b90_33, b90_36, b90_41, b90_43, b90_51, e10, e01, em10, eq_self, lt0_nI, ge0_nI, cl_nI, le_nI, lt_nI, eq_nI, ne_m1, le40, lt40, gd_nI, nI_1, yle, nle, ylt, nlt, reduceIte, if_true, if_false, and_true, true_and, and_false, false_and, or_true, true_or, or_false, false_or, not_true_eq_false, not_false_eq_true, rI_some, rL_some, rV_some, rA_ref, rA_null, b01, b01', i01, lcmp0, lcmp_lt, lcmp_gt, om1, m1_lt0, r_misKept he h1 h2 (show d < 40 by omega), r_mholds (show d < 40 by omega), i01_eq]
    have e := mroot_loop w he h1 h2 hc k (d + 1) (kil o) (by omega)
    rw [rtF] at e
    cases hk : kp ev d <;> cases hb : bt (E c) d <;> rw [hk, hb] at e <;> simpa using e
theorem r_mrootOf {h : mH} (w : HM h n sl P Q K E) (he : gI h 27 13 = nI ev) (h1 : 1 ≤ ev) (h2 : ev ≤ 10) {c : Nat} (hc : c < n) : Rt 90 [.ref 27, .int (nI c)] h = some (some (.int (rtF ev (E c) c)), h) := by
  show Ev 90 0 [some (.ref 27), some (.int (nI c)), none, none, none, none] [] h = _
  simp only [b90_0, b90_5, m_reach w hc, rL_some]
  exact mroot_loop w he h1 h2 hc c 0 _ (by omega)
/-- what a root has -/
def bey (ev : Nat) (E : Nat → Int64) (c : Nat) : Int64 := E c &&& (rv E (rtF ev (E c) c) ^^^ (-1))
theorem r_shareSize {h : mH} (w : HC h n sl P Q K E) (he : gI h 14 0 = nI ev) (h1 : 1 ≤ ev) (h2 : ev ≤ 10) {c : Nat} (hc : c < n) : Rt 148 [.ref 14, .ref 1, .int (nI c)] h = some (some (.int (nI (ct (bey ev E c) 40))), h) := by
  have h40 := w.2.2.2.2.2.2.2.1
  show Ev 148 0 [some (.ref 14), some (.ref 1), some (.int (nI c)), none, none] [] h = _
  have hr : Rt 139 [.ref 1, .int (rtF ev (E c) c)] h = some (some (.long (rv E (rtF ev (E c) c))), h) := by
    rcases rtF_or ev (E c) c with q | ⟨d, q1, q2⟩
    · rw [q, r_reachOf_no, rv_m1]
    · rw [q2, c_reach w (by omega), rv_nI _ (by omega)]
  simp only [b148_0, b148_7, b148_10, b148_16, b148_25, r_rootOf w he h1 h2 hc, rI_some, rL_some, hr, c_reach w hc, r_bitCount]
  have hs : sub (bey ev E c) 40 := sub_andl (fun j hj q => by have := sub_E w.2.2.2.2.2.2.2 hc j hj q; omega)
  rw [show E c &&& (rv E (rtF ev (E c) c) ^^^ (-1)) = bey ev E c from rfl, ct_up hs 64 (by omega) (by omega)]
theorem r_shareOf {h : mH} (w : HM h n sl P Q K E) (he : gI h 27 13 = nI ev) (h1 : 1 ≤ ev) (h2 : ev ≤ 10) {c : Nat} (hc : c < n) : Rt 91 [.ref 27, .int (nI c)] h = some (some (.int (nI (ct (bey ev E c) 40))), h) := by
  have h40 := w.2.2.2.2.2.2.1
  show Ev 91 0 [some (.ref 27), some (.int (nI c)), none] [] h = _
  simp only [b91_0, b91_5, b91_11, r_mrootOf w he h1 h2 hc, rI_some, rL_some, m_reach w hc]
  unfold bey
  rcases rtF_or ev (E c) c with q | ⟨d, q1, q2⟩
  · rw [q, rv_m1]
    simp only [b91_16, b91_25, b91_33, e10, e01, em10, eq_self, lt0_nI, ge0_nI, cl_nI, le_nI, lt_nI, eq_nI, ne_m1, le40, lt40, gd_nI, nI_1, yle, nle, ylt, nlt, reduceIte, if_true, if_false, and_true, true_and, and_false, false_and, or_true, true_or, or_false, false_or, not_true_eq_false, not_false_eq_true, rI_some, rL_some, rV_some, rA_ref, rA_null, b01, b01', i01, lcmp0, lcmp_lt, lcmp_gt, om1, m1_lt0, r_manyOf]
  · rw [q2, rv_nI _ (by omega)]
    simp (disch := omega) only [b91_20, b91_25, b91_33, e10, e01, em10, eq_self, lt0_nI, ge0_nI, cl_nI, le_nI, lt_nI, eq_nI, ne_m1, le40, lt40, gd_nI, nI_1, yle, nle, ylt, nlt, reduceIte, if_true, if_false, and_true, true_and, and_false, false_and, or_true, true_or, or_false, false_or, not_true_eq_false, not_false_eq_true, rI_some, rL_some, rV_some, rA_ref, rA_null, b01, b01', i01, lcmp0, lcmp_lt, lcmp_gt, om1, m1_lt0, m_reach w (show d < n by omega), r_manyOf]
/-- roots one behind another -/
def rts (ev : Nat) (E : Nat → Int64) : Nat → Int32 → Nat
  | 0, _ => 0
  | k + 1, v => if v = -1 then 0 else rts ev E k (rtF ev (E v.toNatClampNeg) v.toNatClampNeg) + 1
theorem rts_m1 (ev : Nat) (E : Nat → Int64) (k : Nat) : rts ev E k (-1) = 0 := by cases k <;> simp [rts]
theorem rts_nI (ev : Nat) (E : Nat → Int64) (k : Nat) {d : Nat} (hd : d < 2147483648) : rts ev E (k + 1) (nI d) = rts ev E k (rtF ev (E d) d) + 1 := by
  rw [rts, if_neg (by rw [ne_m1 hd]; exact id), cl_nI hd]
theorem rts_le (ev : Nat) (E : Nat → Int64) : ∀ (k : Nat) (v : Int32), rts ev E k v ≤ k
  | 0, _ => Nat.le_refl 0
  | k + 1, v => by
    unfold rts
    split
    · omega
    · have := rts_le ev E k (rtF ev (E v.toNatClampNeg) v.toNatClampNeg)
      omega
theorem roots_loop {h : mH} (w : HC h n sl P Q K E) (he : gI h 14 0 = nI ev) (h1 : 1 ≤ ev) (h2 : ev ≤ 10) (x : Int32) : ∀ (k st m : Nat) (v : Int32), st + k = 40 → m ≤ st → (v = -1 ∨ ∃ d, d < n ∧ v = nI d) → Ev 149 13 [some (.ref 14), some (.ref 1), some (.int x), some (.int (nI m)), some (.int v), some (.int (nI st))] [] h = some (some (.int (nI (m + rts ev E k v))), h)
  | 0, st, m, v, hk, hm, hv => by
    obtain rfl : st = 40 := by omega
    rw [b149_13]
    simp (disch := omega) only [b149_44, e10, e01, em10, eq_self, lt0_nI, ge0_nI, cl_nI, le_nI, lt_nI, eq_nI, ne_m1, le40, lt40, gd_nI, nI_1, yle, nle, ylt, nlt, reduceIte, if_true, if_false, and_true, true_and, and_false, false_and, or_true, true_or, or_false, false_or, not_true_eq_false, not_false_eq_true, rI_some, rL_some, rV_some, rA_ref, rA_null, b01, b01', i01, lcmp0, lcmp_lt, lcmp_gt, om1, m1_lt0]
    rfl
  | k + 1, st, m, v, hk, hm, hv => by
    have h40 := w.2.2.2.2.2.2.2.1
    rw [b149_13]
    rcases hv with rfl | ⟨d, hd, rfl⟩
    · rw [rts_m1]
      simp (disch := omega) only [b149_20, b149_44, e10, e01, em10, eq_self, lt0_nI, ge0_nI, cl_nI, le_nI, lt_nI, eq_nI, ne_m1, le40, lt40, gd_nI, nI_1, yle, nle, ylt, nlt, reduceIte, if_true, if_false, and_true, true_and, and_false, false_and, or_true, true_or, or_false, false_or, not_true_eq_false, not_false_eq_true, rI_some, rL_some, rV_some, rA_ref, rA_null, b01, b01', i01, lcmp0, lcmp_lt, lcmp_gt, om1, m1_lt0, Nat.add_zero]
    · rw [rts_nI _ _ _ (by omega)]
      simp (disch := omega) only [b149_20, b149_26, b149_36, e10, e01, em10, eq_self, lt0_nI, ge0_nI, cl_nI, le_nI, lt_nI, eq_nI, ne_m1, le40, lt40, gd_nI, nI_1, yle, nle, ylt, nlt, reduceIte, if_true, if_false, and_true, true_and, and_false, false_and, or_true, true_or, or_false, false_or, not_true_eq_false, not_false_eq_true, rI_some, rL_some, rV_some, rA_ref, rA_null, b01, b01', i01, lcmp0, lcmp_lt, lcmp_gt, om1, m1_lt0, r_rootOf w he h1 h2 hd]
      rw [roots_loop w he h1 h2 x k (st + 1) (m + 1) _ (by omega) (by omega) (by
        rcases rtF_or ev (E d) d with q | ⟨e, q1, q2⟩
        · exact Or.inl q
        · exact Or.inr ⟨e, by omega, q2⟩)]
      rw [show ∀ a : Nat, m + 1 + a = m + (a + 1) from fun a => by omega]
theorem r_rootsBehind {h : mH} (w : HC h n sl P Q K E) (he : gI h 14 0 = nI ev) (h1 : 1 ≤ ev) (h2 : ev ≤ 10) {c : Nat} (hc : c < n) : Rt 149 [.ref 14, .ref 1, .int (nI c)] h = some (some (.int (nI (rts ev E 40 (rtF ev (E c) c)))), h) := by
  show Ev 149 0 [some (.ref 14), some (.ref 1), some (.int (nI c)), none, none, none] [] h = _
  simp only [b149_0, b149_8, r_rootOf w he h1 h2 hc, rI_some]
  have := roots_loop w he h1 h2 (nI c) 40 0 0 (rtF ev (E c) c) (by omega) (by omega) (by
        rcases rtF_or ev (E c) c with q | ⟨e, q1, q2⟩
        · exact Or.inl q
        · exact Or.inr ⟨e, by omega, q2⟩)
  rw [Nat.zero_add] at this
  exact this
theorem mroots_loop {h : mH} (w : HM h n sl P Q K E) (he : gI h 27 13 = nI ev) (h1 : 1 ≤ ev) (h2 : ev ≤ 10) (x : Int32) : ∀ (k m : Nat) (v : Int32), (v = -1 ∨ ∃ d, d < n ∧ d < k ∧ v = nI d) → Ev 92 8 [some (.ref 27), some (.int x), some (.int (nI m)), some (.int v)] [] h = some (some (.int (nI (m + rts ev E k v))), h) := by
  intro k
  induction k with
  | zero =>
    intro m v hv
    rcases hv with rfl | ⟨d, hd, hdk, rfl⟩
    · simp only [b92_8, b92_25, e10, e01, em10, eq_self, lt0_nI, ge0_nI, cl_nI, le_nI, lt_nI, eq_nI, ne_m1, le40, lt40, gd_nI, nI_1, yle, nle, ylt, nlt, reduceIte, if_true, if_false, and_true, true_and, and_false, false_and, or_true, true_or, or_false, false_or, not_true_eq_false, not_false_eq_true, rI_some, rL_some, rV_some, rA_ref, rA_null, b01, b01', i01, lcmp0, lcmp_lt, lcmp_gt, om1, m1_lt0]; rfl
    · omega
  | succ k ih =>
    intro m v hv
    have h40 := w.2.2.2.2.2.2.1
    rcases hv with rfl | ⟨d, hd, hdk, rfl⟩
    · rw [rts_m1, b92_8]
      simp only [b92_25, e10, e01, em10, eq_self, lt0_nI, ge0_nI, cl_nI, le_nI, lt_nI, eq_nI, ne_m1, le40, lt40, gd_nI, nI_1, yle, nle, ylt, nlt, reduceIte, if_true, if_false, and_true, true_and, and_false, false_and, or_true, true_or, or_false, false_or, not_true_eq_false, not_false_eq_true, rI_some, rL_some, rV_some, rA_ref, rA_null, b01, b01', i01, lcmp0, lcmp_lt, lcmp_gt, om1, m1_lt0, Nat.add_zero]
    · rw [rts_nI _ _ _ (by omega), b92_8]
      simp (disch := omega) only [b92_13, b92_21, e10, e01, em10, eq_self, lt0_nI, ge0_nI, cl_nI, le_nI, lt_nI, eq_nI, ne_m1, le40, lt40, gd_nI, nI_1, yle, nle, ylt, nlt, reduceIte, if_true, if_false, and_true, true_and, and_false, false_and, or_true, true_or, or_false, false_or, not_true_eq_false, not_false_eq_true, rI_some, rL_some, rV_some, rA_ref, rA_null, b01, b01', i01, lcmp0, lcmp_lt, lcmp_gt, om1, m1_lt0, r_mrootOf w he h1 h2 hd]
      rw [ih (m + 1) _ (by
        rcases rtF_or ev (E d) d with q | ⟨e, q1, q2⟩
        · exact Or.inl q
        · exact Or.inr ⟨e, by omega, by omega, q2⟩)]
      rw [show ∀ a : Nat, m + 1 + a = m + (a + 1) from fun a => by omega]
theorem r_rootsOf {h : mH} (w : HM h n sl P Q K E) (he : gI h 27 13 = nI ev) (h1 : 1 ≤ ev) (h2 : ev ≤ 10) {c : Nat} (hc : c < n) : Rt 92 [.ref 27, .int (nI c)] h = some (some (.int (nI (rts ev E 40 (rtF ev (E c) c)))), h) := by
  have h40 := w.2.2.2.2.2.2.1
  show Ev 92 0 [some (.ref 27), some (.int (nI c)), none, none] [] h = _
  simp only [b92_0, b92_7, r_mrootOf w he h1 h2 hc, rI_some]
  have := mroots_loop w he h1 h2 (nI c) 40 0 (rtF ev (E c) c) (by
        rcases rtF_or ev (E c) c with q | ⟨e, q1, q2⟩
        · exact Or.inl q
        · exact Or.inr ⟨e, by omega, by omega, q2⟩)
  rw [Nat.zero_add] at this
  exact this
end KE
