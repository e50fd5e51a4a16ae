/-! The talk: from its start; what is asked of it. -/
def tk0 (n : Nat) (E : Nat → Int64) (had : Int64) : Tk := (had &&& (blw E had n ^^^ (-1)), had &&& (blw E had n ^^^ (-1)), 0, 0, 0, fun _ => 0, fun _ => 0)
def TA (n : Nat) (P Q K : Nat → Int32) (E : Nat → Int64) (had W : Int64) (per : Nat) (hst : Bool) : Tk := tk n P Q K E W (orE E W n) per hst 40 (tk0 n E had)
section TX
variable {n sl : Nat} {P Q K : Nat → Int32} {E : Nat → Int64}
theorem ti_0 (E : Nat → Int64) {had : Int64} (hs : sub had n) : TI n (tk0 n E had) := ⟨sub_andl hs, sub_andl hs, by show 0 + ct _ n ≤ ct _ n; exact Nat.le_of_eq (Nat.zero_add _), Nat.le_refl 0, fun i hi => absurd hi (Nat.not_lt_zero i)⟩
theorem ti_tk (w : WF n P Q K E) (W g : Int64) (per : Nat) (hst : Bool) : ∀ (f : Nat) (s : Tk), TI n s → TI n (tk n P Q K E W g per hst f s)
  | 0, s, i => i
  | f + 1, s, i => by
    rw [tk]
    by_cases h0 : s.pl = 0
    · rw [if_pos h0]; exact i
    rw [if_neg h0]
    by_cases h1 : (tl K n 40 per s).t = s.t
    · rw [if_pos h1]; exact (tl_inv K w.1 40 per s i).1
    rw [if_neg h1]
    have h2 := (ti_rnd w g per i h1).1
    split
    · exact h2
    · exact ti_tk w W g per hst f _ h2
theorem ti_TA (w : WF n P Q K E) {had : Int64} (hs : sub had n) (W : Int64) (per : Nat) (hst : Bool) : TI n (TA n P Q K E had W per hst) := ti_tk w W _ per hst 40 _ (ti_0 E hs)
theorem r_talk {h : mH} (w : HC h n sl P Q K E) {had W : Int64} {per : Nat} {hst : Int32} (hper : per < 100) (a0 : gJ h 15 0 = had) (a1 : gJ h 15 1 = W) (a2 : gI h 15 2 = nI per) (a3 : gI h 15 3 = hst) (hs : sub had n) : ∃ h', Rt 118 [.ref 15, .ref 1] h = some (none, h') ∧ Sx [5] h h' ∧ TC h' (orE E W n) (TA n P Q K E had W per (decide (hst = 1))) := by
  have h40 := w.2.2.2.2.2.2.2.1
  obtain ⟨h1, e1⟩ : ∃ h1, h1 = sJ h 15 11 (orE E W n) := ⟨_, rfl⟩
  have s1 : Sx [5] h h1 := by rw [e1]; exact sx_sJ (sx_refl _ _) (by decide)
  have w1 := hc_sx w s1 (by decide)
  obtain ⟨h2, e2⟩ : ∃ h2, h2 = sI (sI (sJ (sJ (sJ h1 15 8 (tk0 n E had).pl) 15 9 (tk0 n E had).bn) 15 10 0) 15 6 0) 15 7 0 := ⟨_, rfl⟩
  have s2 : Sx [5] h h2 := by rw [e2]; exact sx_sI (sx_sI (sx_sJ (sx_sJ (sx_sJ s1 (by decide)) (by decide)) (by decide)) (by decide)) (by decide)
  have w2 := hc_sx w s2 (by decide)
  have q : TC h2 (orE E W n) (tk0 n E had) := by
    refine ⟨?_, ?_, ?_, ?_, ?_, ?_, fun i hi => absurd hi (Nat.not_lt_zero i)⟩
    · rw [e2, e1]; simp only [gI_sI, gJ_sJ, gI_sJ, gJ_sI, Nat.reduceEqDiff, eq_self, and_true, true_and, and_false, false_and, and_self, if_true, if_false, reduceIte, Nat.succ_ne_zero]
    · rw [e2]; simp only [gI_sI, gJ_sJ, gI_sJ, gJ_sI, Nat.reduceEqDiff, eq_self, and_true, true_and, and_false, false_and, and_self, if_true, if_false, reduceIte, Nat.succ_ne_zero]
    · rw [e2]; simp only [gI_sI, gJ_sJ, gI_sJ, gJ_sI, Nat.reduceEqDiff, eq_self, and_true, true_and, and_false, false_and, and_self, if_true, if_false, reduceIte, Nat.succ_ne_zero]
    · rw [e2]; simp only [gI_sI, gJ_sJ, gI_sJ, gJ_sI, Nat.reduceEqDiff, eq_self, and_true, true_and, and_false, false_and, and_self, if_true, if_false, reduceIte, Nat.succ_ne_zero]; rfl
    · rw [e2]; simp only [gI_sI, gJ_sJ, gI_sJ, gJ_sI, Nat.reduceEqDiff, eq_self, and_true, true_and, and_false, false_and, and_self, if_true, if_false, reduceIte, Nat.succ_ne_zero]; rfl
    · rw [e2]; simp only [gI_sI, gJ_sJ, gI_sJ, gJ_sI, Nat.reduceEqDiff, eq_self, and_true, true_and, and_false, false_and, and_self, if_true, if_false, reduceIte, Nat.succ_ne_zero]; rfl
  obtain ⟨h', f1, f2, f3⟩ := talk_loop (orE E W n) W per hper hst 40 0 (tk0 n E had) h2 none rfl w2 (by rw [(s2 15 1 (by decide)).2]; exact a1) (by rw [(s2 15 2 (by decide)).1]; exact a2) (by rw [(s2 15 3 (by decide)).1]; exact a3) q (ti_0 E hs)
  refine ⟨h', ?_, sx_trans s2 f2, f3⟩
  show Ev 118 0 [some (.ref 15), some (.ref 1), none, none] [] h = _
  rw [← f1, b118_0, a1, r_reachOfAll w.1 h40, rL_some, w.2.2.2.2.2.2.1, b118_9, ← e1, (s1 15 0 (by decide)).2, a0, r_tipsOf w1.1 h40, rL_some, w1.2.2.2.2.2.2.1, b118_21]
  have q8 : gJ (sJ h1 15 8 (had &&& (blw E had n ^^^ (-1)))) 15 8 = had &&& (blw E had n ^^^ (-1)) := by simp only [gI_sI, gJ_sJ, gI_sJ, gJ_sI, Nat.reduceEqDiff, eq_self, and_true, true_and, and_false, false_and, and_self, if_true, if_false, reduceIte, Nat.succ_ne_zero]
  rw [q8, e2]; rfl
theorem r_talks {h : mH} (w : HM h n sl P Q K E) {had W : Int64} {per : Nat} {hst : Int32} (hper : per < 100) (hp0 : 0 < per) (a0 : gJ h 27 16 = had) (a1 : gJ h 27 17 = W) (a2 : gI h 27 14 = nI per) (a3 : gI h 27 15 = hst) (hs : sub had n) : ∃ h', Rt 105 [.ref 27] h = some (none, h') ∧ Sx [9] h h' ∧ TM h' (orE E W n) (TA n P Q K E had W per (decide (hst = 1))).t (TA n P Q K E had W per (decide (hst = 1))) := by
  have h40 := w.2.2.2.2.2.2.1
  obtain ⟨h0, e0⟩ : ∃ h0, h0 = sJ (sI (sI h 27 22 0) 27 23 0) 27 27 0 := ⟨_, rfl⟩
  have s0 : Sx [9] h h0 := by rw [e0]; exact sx_sJ (sx_sI (sx_sI (sx_refl _ _) (by decide)) (by decide)) (by decide)
  have w0 := hm_sx w s0 (by decide)
  obtain ⟨h1, e1⟩ : ∃ h1, h1 = sJ h0 27 28 (orE E W n) := ⟨_, rfl⟩
  have s1 : Sx [9] h h1 := by rw [e1]; exact sx_sJ s0 (by decide)
  have w1 := hm_sx w s1 (by decide)
  obtain ⟨h2, e2⟩ : ∃ h2, h2 = sJ (sJ h1 27 29 (tk0 n E had).pl) 27 30 (tk0 n E had).bn := ⟨_, rfl⟩
  have s2 : Sx [9] h h2 := by rw [e2]; exact sx_sJ (sx_sJ s1 (by decide)) (by decide)
  have w2 := hm_sx w s2 (by decide)
  have q : TM h2 (orE E W n) (tk0 n E had).t (tk0 n E had) := by
    refine ⟨?_, ?_, ?_, ?_, ?_, ?_, fun i hi => absurd hi (Nat.not_lt_zero i), fun i hi => absurd hi (Nat.not_lt_zero i)⟩
    · rw [e2, e1]; simp only [gI_sI, gJ_sJ, gI_sJ, gJ_sI, Nat.reduceEqDiff, eq_self, and_true, true_and, and_false, false_and, and_self, if_true, if_false, reduceIte, Nat.succ_ne_zero]
    · rw [e2]; simp only [gI_sI, gJ_sJ, gI_sJ, gJ_sI, Nat.reduceEqDiff, eq_self, and_true, true_and, and_false, false_and, and_self, if_true, if_false, reduceIte, Nat.succ_ne_zero]
    · rw [e2]; simp only [gI_sI, gJ_sJ, gI_sJ, gJ_sI, Nat.reduceEqDiff, eq_self, and_true, true_and, and_false, false_and, and_self, if_true, if_false, reduceIte, Nat.succ_ne_zero]
    · rw [e2, e1, e0]; simp only [gI_sI, gJ_sJ, gI_sJ, gJ_sI, Nat.reduceEqDiff, eq_self, and_true, true_and, and_false, false_and, and_self, if_true, if_false, reduceIte, Nat.succ_ne_zero]; rfl
    · rw [e2, e1, e0]; simp only [gI_sI, gJ_sJ, gI_sJ, gJ_sI, Nat.reduceEqDiff, eq_self, and_true, true_and, and_false, false_and, and_self, if_true, if_false, reduceIte, Nat.succ_ne_zero]; rfl
    · rw [e2, e1, e0]; simp only [gI_sI, gJ_sJ, gI_sJ, gJ_sI, Nat.reduceEqDiff, eq_self, and_true, true_and, and_false, false_and, and_self, if_true, if_false, reduceIte, Nat.succ_ne_zero]; rfl
  obtain ⟨h', f1, f2, f3⟩ := talks_loop (orE E W n) W per hper hp0 hst 40 (tk0 n E had) h2 (if (tk0 n E had).pl = 0 then 0 else 1) none none none (by show n ≤ 0 + 40; omega) w2 (by rw [(s2 27 17 (by decide)).2]; exact a1) (by rw [(s2 27 14 (by decide)).1]; exact a2) (by rw [(s2 27 15 (by decide)).1]; exact a3) q (ti_0 E hs) rfl
  refine ⟨h', ?_, sx_trans s2 f2, f3⟩
  show Ev 105 0 [some (.ref 27), none, none, none, none] [] h = _
  have wE0 : WF n (gI h0 32) (gI h0 33) K E := by rw [w0.2.2.2.1, w0.2.2.2.2.1]; exact w0.2.2.2.2.2.2
  have wE1 : WF n (gI h1 32) (gI h1 33) K E := by rw [w1.2.2.2.1, w1.2.2.2.2.1]; exact w1.2.2.2.2.2.2
  have q29 : gJ (sJ h1 27 29 (had &&& (blw E had n ^^^ (-1)))) 27 29 = had &&& (blw E had n ^^^ (-1)) := by simp only [gI_sI, gJ_sJ, gI_sJ, gJ_sI, Nat.reduceEqDiff, eq_self, and_true, true_and, and_false, false_and, and_self, if_true, if_false, reduceIte, Nat.succ_ne_zero]
  have q29' : gJ (sJ (sJ h1 27 29 (had &&& (blw E had n ^^^ (-1)))) 27 30 (had &&& (blw E had n ^^^ (-1)))) 27 29 = had &&& (blw E had n ^^^ (-1)) := by simp only [gI_sI, gJ_sJ, gI_sJ, gJ_sI, Nat.reduceEqDiff, eq_self, and_true, true_and, and_false, false_and, and_self, if_true, if_false, reduceIte, Nat.succ_ne_zero]
  rw [← f1, b105_0, ← e0, (s0 27 17 (by decide)).2, a1, r_reachAll wE0 w0.1, rL_some, b105_24, ← e1, r_heads wE1 w1.1, rL_some, (s1 27 16 (by decide)).2, a0, b105_32, q29, q29']
  rw [show sJ (sJ h1 27 29 (had &&& (blw E had n ^^^ (-1)))) 27 30 (had &&& (blw E had n ^^^ (-1))) = h2 from e2.symm]
  simp only [lcmp0]
  show (if (tk0 n E had).pl = 0 then _ else _) = _
  split
  · rw [b105_56, b105_57]
  · rw [b105_52, b105_57]
/-- what is asked of the talk -/
def stB (had W g cm : Int64) (x : Int32) : Int64 := if x = 0 then had else if x = 1 then W else if x = 2 then cm else if x = 3 then g &&& (cm ^^^ (-1)) else (g &&& (cm ^^^ (-1))) &&& had
theorem r_setOf (h : mH) (x : Int32) : Rt 122 [.ref 15, .int x] h = some (some (.long (stB (gJ h 15 0) (gJ h 15 1) (gJ h 15 11) (gJ h 15 10) x)), h) := by
  show Ev 122 0 [some (.ref 15), some (.int x)] [] h = _
  simp only [b122_0, b122_32, b122_37, b122_42, b122_47, b122_61, stB]
  split
  · rfl
  · split
    · rfl
    · split
      · rfl
      · split <;> rfl
theorem r_setBy (h : mH) (x : Int32) : Rt 106 [.ref 27, .int x] h = some (some (.long (stB (gJ h 27 16) (gJ h 27 17) (gJ h 27 28) (gJ h 27 27) x)), h) := by
  show Ev 106 0 [some (.ref 27), some (.int x), none, none] [] h = _
  simp only [b106_0, b106_18, b106_25, b106_30, b106_37, b106_42, b106_49, b106_54, b106_58, b106_64, stB, ite_not]
  split
  · rfl
  · split
    · rfl
    · split
      · rfl
      · split <;> rfl
def toB (s : Tk) (g : Int64) (i : Nat) (x : Int32) : Int32 := if i < s.t then (if x = 0 then s.tc i else if x = 1 then (if bt g (s.tc i).toNatClampNeg = true then 1 else 0) else s.tr i) else -1
theorem r_tellingPart {h : mH} {g : Int64} {s : Tk} (q : TC h g s) (t : TI n s) (h40 : n ≤ 40) {i : Nat} (hi : i < 2147483648) (x : Int32) : Rt 123 [.ref 15, .int (nI i), .int x] h = some (some (.int (toB s g i x)), h) := by
  have ht := ti_t t
  obtain ⟨q0, q1, q2, q3, q4, q5, q6⟩ := q
  show Ev 123 0 [some (.ref 15), some (.int (nI i)), some (.int x)] [] h = _
  rw [toB]
  by_cases h1 : i < s.t
  · obtain ⟨c, hc, e⟩ := t.2.2.2.2 i h1
    rw [if_pos h1]
    by_cases hx0 : x = 0
    · simp (disch := omega) only [b123_0, b123_4, b123_12, b123_20, b123_48, b123_54, e10, e01, em10, eq_self, lt0_nI, ge0_nI, cl_nI, le_nI, lt_nI, eq_nI, ne_m1, le40, lt40, gd_nI, nI_1, yle, nle, ylt, nlt, reduceIte, if_true, if_false, and_true, true_and, and_false, false_and, or_true, true_or, or_false, false_or, not_true_eq_false, not_false_eq_true, rI_some, rL_some, rV_some, rA_ref, rA_null, b01, b01', i01, lcmp0, lcmp_lt, lcmp_gt, om1, m1_lt0, q4, hx0, (q6 i h1).1]
    by_cases hx1 : x = 1
    · by_cases hb : bt g c = true
      · simp (disch := omega) only [b123_0, b123_4, b123_12, b123_20, b123_55, b123_65, b123_68, b123_71, b123_76, e10, e01, em10, eq_self, lt0_nI, ge0_nI, cl_nI, le_nI, lt_nI, eq_nI, ne_m1, le40, lt40, gd_nI, nI_1, yle, nle, ylt, nlt, reduceIte, if_true, if_false, and_true, true_and, and_false, false_and, or_true, true_or, or_false, false_or, not_true_eq_false, not_false_eq_true, rI_some, rL_some, rV_some, rA_ref, rA_null, b01, b01', i01, lcmp0, lcmp_lt, lcmp_gt, om1, m1_lt0, q4, hx1, (q6 i h1).1, e, r_isIn, q0, hb]
      · simp (disch := omega) only [b123_0, b123_4, b123_12, b123_20, b123_55, b123_65, b123_68, b123_75, b123_76, e10, e01, em10, eq_self, lt0_nI, ge0_nI, cl_nI, le_nI, lt_nI, eq_nI, ne_m1, le40, lt40, gd_nI, nI_1, yle, nle, ylt, nlt, reduceIte, if_true, if_false, and_true, true_and, and_false, false_and, or_true, true_or, or_false, false_or, not_true_eq_false, not_false_eq_true, rI_some, rL_some, rV_some, rA_ref, rA_null, b01, b01', i01, lcmp0, lcmp_lt, lcmp_gt, om1, m1_lt0, q4, hx1, (q6 i h1).1, e, r_isIn, q0, hb, Bool.false_eq_true]
    · simp (disch := omega) only [b123_0, b123_4, b123_12, b123_20, b123_77, b123_83, e10, e01, em10, eq_self, lt0_nI, ge0_nI, cl_nI, le_nI, lt_nI, eq_nI, ne_m1, le40, lt40, gd_nI, nI_1, yle, nle, ylt, nlt, reduceIte, if_true, if_false, and_true, true_and, and_false, false_and, or_true, true_or, or_false, false_or, not_true_eq_false, not_false_eq_true, rI_some, rL_some, rV_some, rA_ref, rA_null, b01, b01', i01, lcmp0, lcmp_lt, lcmp_gt, om1, m1_lt0, q4, hx0, hx1, (q6 i h1).2]
  · rw [if_neg h1]
    simp (disch := omega) only [b123_0, b123_4, b123_18, e10, e01, em10, eq_self, lt0_nI, ge0_nI, cl_nI, le_nI, lt_nI, eq_nI, ne_m1, le40, lt40, gd_nI, nI_1, yle, nle, ylt, nlt, reduceIte, if_true, if_false, and_true, true_and, and_false, false_and, or_true, true_or, or_false, false_or, not_true_eq_false, not_false_eq_true, rI_some, rL_some, rV_some, rA_ref, rA_null, b01, b01', i01, lcmp0, lcmp_lt, lcmp_gt, om1, m1_lt0, q4]
theorem r_toldBy {h : mH} {g : Int64} {s : Tk} (q : TM h g s.t s) (t : TI n s) (h40 : n ≤ 40) {i : Nat} (hi : i < 2147483648) (x : Int32) : Rt 109 [.ref 27, .int (nI i), .int x] h = some (some (.int (toB s g i x)), h) := by
  have ht := ti_t t
  obtain ⟨q0, q1, q2, q3, q4, q5, q6, q7⟩ := q
  show Ev 109 0 [some (.ref 27), some (.int (nI i)), some (.int x)] [] h = _
  rw [toB]
  by_cases h1 : i < s.t
  · rw [if_pos h1, b109_0, q4, if_pos (show nI i < nI s.t by rw [lt_nI (by omega) (by omega)]; exact h1), b109_12]
    by_cases hx0 : x = 0
    · rw [if_neg (fun q => q hx0), if_pos hx0]
      simp (disch := omega) only [b109_16, b109_22, b109_45, e10, e01, em10, eq_self, lt0_nI, ge0_nI, cl_nI, le_nI, lt_nI, eq_nI, ne_m1, le40, lt40, gd_nI, nI_1, yle, nle, ylt, nlt, reduceIte, if_true, if_false, and_true, true_and, and_false, false_and, or_true, true_or, or_false, false_or, not_true_eq_false, not_false_eq_true, rI_some, rL_some, rV_some, rA_ref, rA_null, b01, b01', i01, lcmp0, lcmp_lt, lcmp_gt, om1, m1_lt0, (q6 i h1).1]
    rw [if_pos hx0, if_neg hx0, b109_25]
    by_cases hx1 : x = 1
    · rw [if_neg (fun q => q hx1), if_pos hx1]
      simp (disch := omega) only [b109_30, b109_36, b109_45, e10, e01, em10, eq_self, lt0_nI, ge0_nI, cl_nI, le_nI, lt_nI, eq_nI, ne_m1, le40, lt40, gd_nI, nI_1, yle, nle, ylt, nlt, reduceIte, if_true, if_false, and_true, true_and, and_false, false_and, or_true, true_or, or_false, false_or, not_true_eq_false, not_false_eq_true, rI_some, rL_some, rV_some, rA_ref, rA_null, b01, b01', i01, lcmp0, lcmp_lt, lcmp_gt, om1, m1_lt0, q7 i h1]
    · rw [if_pos hx1, if_neg hx1]
      simp (disch := omega) only [b109_39, b109_45, e10, e01, em10, eq_self, lt0_nI, ge0_nI, cl_nI, le_nI, lt_nI, eq_nI, ne_m1, le40, lt40, gd_nI, nI_1, yle, nle, ylt, nlt, reduceIte, if_true, if_false, and_true, true_and, and_false, false_and, or_true, true_or, or_false, false_or, not_true_eq_false, not_false_eq_true, rI_some, rL_some, rV_some, rA_ref, rA_null, b01, b01', i01, lcmp0, lcmp_lt, lcmp_gt, om1, m1_lt0, (q6 i h1).2]
  · rw [if_neg h1, b109_0, q4, if_neg (show ¬ nI i < nI s.t by rw [lt_nI (by omega) (by omega)]; exact h1), b109_8, b109_45]
theorem r_thingsSent {h : mH} (w : HC h n sl P Q K E) : Rt 124 [.ref 15, .ref 1] h = some (some (.int (orI (gI h 4) (gJ h 15 11 &&& (gJ h 15 10 ^^^ (-1))) n &&& (orI (gI h 4) (gJ h 15 10) n ^^^ (-1)))), h) := by
  have h40 := w.2.2.2.2.2.2.2.1
  show Ev 124 0 [some (.ref 15), some (.ref 1)] [] h = _
  rw [b124_0, r_thingsOf w.1 h40, rI_some, b124_17, r_thingsOf w.1 h40, rI_some, b124_25]
theorem things_loop {h : mH} (w : HM h n sl P Q K E) (s cm : Int64) (hcm : gJ h 27 27 = cm) : ∀ (k c : Nat) (o : Option Value), c + k = n → Ev 111 14 [some (.ref 27), some (.long s), o, some (.int (orI (gI h 35) s c)), some (.int (orI (gI h 35) cm c)), some (.int (nI c))] [] h = some (some (.int (orI (gI h 35) s n &&& (orI (gI h 35) cm n ^^^ (-1)))), h)
  | 0, c, o, hk => by
    obtain rfl : c = n := by omega
    have h40 := w.2.2.2.2.2.2.1
    rw [b111_14, w.1]
    simp (disch := omega) only [b111_80, e10, e01, em10, eq_self, lt0_nI, ge0_nI, cl_nI, le_nI, lt_nI, eq_nI, ne_m1, le40, lt40, gd_nI, nI_1, yle, nle, ylt, nlt, reduceIte, if_true, if_false, and_true, true_and, and_false, false_and, or_true, true_or, or_false, false_or, not_true_eq_false, not_false_eq_true, rI_some, rL_some, rV_some, rA_ref, rA_null, b01, b01', i01, lcmp0, lcmp_lt, lcmp_gt, om1, m1_lt0]
  | k + 1, c, o, hk => by
    have h40 := w.2.2.2.2.2.2.1
    have or0 : ∀ x : Int32, x ||| 0 = x := fun x => by simp
    refine Eq.trans ?_ (things_loop w s cm hcm k (c + 1) (kil o) (by omega))
    rw [b111_14, w.1, orI, orI]
    by_cases h1 : bt s c = true
    · by_cases h2 : bt cm c = true
      · simp (disch := omega) only [b111_23, b111_30, b111_33, b111_40, b111_44, b111_57, b111_60, b111_67, b111_71, e10, e01, em10, eq_self, lt0_nI, ge0_nI, cl_nI, le_nI, lt_nI, eq_nI, ne_m1, le40, lt40, gd_nI, nI_1, yle, nle, ylt, nlt, reduceIte, if_true, if_false, and_true, true_and, and_false, false_and, or_true, true_or, or_false, false_or, not_true_eq_false, not_false_eq_true, rI_some, rL_some, rV_some, rA_ref, rA_null, b01, b01', i01, lcmp0, lcmp_lt, lcmp_gt, om1, m1_lt0, r_mholds, h1, h2, hcm]
      · simp (disch := omega) only [b111_23, b111_30, b111_33, b111_40, b111_44, b111_57, b111_70, b111_71, e10, e01, em10, eq_self, lt0_nI, ge0_nI, cl_nI, le_nI, lt_nI, eq_nI, ne_m1, le40, lt40, gd_nI, nI_1, yle, nle, ylt, nlt, reduceIte, if_true, if_false, and_true, true_and, and_false, false_and, or_true, true_or, or_false, false_or, not_true_eq_false, not_false_eq_true, rI_some, rL_some, rV_some, rA_ref, rA_null, b01, b01', i01, lcmp0, lcmp_lt, lcmp_gt, om1, m1_lt0, r_mholds, h1, h2, hcm, Bool.false_eq_true, or0]
    · by_cases h2 : bt cm c = true
      · simp (disch := omega) only [b111_23, b111_30, b111_43, b111_44, b111_57, b111_60, b111_67, b111_71, e10, e01, em10, eq_self, lt0_nI, ge0_nI, cl_nI, le_nI, lt_nI, eq_nI, ne_m1, le40, lt40, gd_nI, nI_1, yle, nle, ylt, nlt, reduceIte, if_true, if_false, and_true, true_and, and_false, false_and, or_true, true_or, or_false, false_or, not_true_eq_false, not_false_eq_true, rI_some, rL_some, rV_some, rA_ref, rA_null, b01, b01', i01, lcmp0, lcmp_lt, lcmp_gt, om1, m1_lt0, r_mholds, h1, h2, hcm, Bool.false_eq_true, or0]
      · simp (disch := omega) only [b111_23, b111_30, b111_43, b111_44, b111_57, b111_70, b111_71, e10, e01, em10, eq_self, lt0_nI, ge0_nI, cl_nI, le_nI, lt_nI, eq_nI, ne_m1, le40, lt40, gd_nI, nI_1, yle, nle, ylt, nlt, reduceIte, if_true, if_false, and_true, true_and, and_false, false_and, or_true, true_or, or_false, false_or, not_true_eq_false, not_false_eq_true, rI_some, rL_some, rV_some, rA_ref, rA_null, b01, b01', i01, lcmp0, lcmp_lt, lcmp_gt, om1, m1_lt0, r_mholds, h1, h2, hcm, Bool.false_eq_true, or0]
theorem r_thingsNow {h : mH} (w : HM h n sl P Q K E) : Rt 111 [.ref 27] h = some (some (.int (orI (gI h 35) (gJ h 27 28 &&& (gJ h 27 27 ^^^ (-1))) n &&& (orI (gI h 35) (gJ h 27 27) n ^^^ (-1)))), h) := by
  show Ev 111 0 [some (.ref 27), none, none, none, none, none] [] h = _
  rw [b111_0, r_setBy, rL_some, b111_5]
  exact things_loop w _ _ rfl n 0 none (by omega)
end TX
