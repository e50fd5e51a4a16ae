/-! The talk: the model's answers; enough. -/
section AM
variable {n sl : Nat} {P Q K : Nat → Int32} {E : Nat → Int64}
theorem two_pl (pl bn cm a b : Int64) : (pl ||| ((a &&& (cm ^^^ (-1))) &&& (bn ^^^ (-1)))) ||| ((b &&& (cm ^^^ (-1))) &&& ((bn ||| ((a &&& (cm ^^^ (-1))) &&& (bn ^^^ (-1)))) ^^^ (-1))) = pl ||| (((a ||| b) &&& (cm ^^^ (-1))) &&& (bn ^^^ (-1))) := by
  apply bt_ext; intro j hj
  simp only [bt_or, bt_and, bt_not _ hj]
  cases bt pl j <;> cases bt bn j <;> cases bt cm j <;> cases bt a j <;> cases bt b j <;> rfl
theorem two_bn (bn cm a b : Int64) : (bn ||| ((a &&& (cm ^^^ (-1))) &&& (bn ^^^ (-1)))) ||| ((b &&& (cm ^^^ (-1))) &&& ((bn ||| ((a &&& (cm ^^^ (-1))) &&& (bn ^^^ (-1)))) ^^^ (-1))) = bn ||| (((a ||| b) &&& (cm ^^^ (-1))) &&& (bn ^^^ (-1))) := two_pl bn bn cm a b
theorem r_answers {h : mH} (w : HM h n sl P Q K E) {g : Int64} {i : Nat} {s : Tk} (q : TM h g i s) (hi : i < s.t) (ht : s.t ≤ n) {c : Nat} (hc : c < n) (e : s.tc i = nI c) : ∃ h', Rt 103 [.ref 27, .int (nI i)] h = some (none, h') ∧ Sx [9] h h' ∧ TM h' g (i + 1) (tkAns P Q E g s c) := by
  have h40 := w.2.2.2.2.2.2.1
  have hwf := w.2.2.2.2.2.2.2 c hc
  have q' := q
  obtain ⟨q0, q1, q2, q3, q4, q5, q6, q7⟩ := q'
  have ec : gI h 40 i = nI c := by rw [(q6 i hi).1, e]
  have m41 : ∀ j, rg 41 j ∈ [9] := fun j => by rw [rg41]; exact List.mem_singleton.mpr rfl
  have new41 : ∀ (x : Int32), x = (if bt g c = true then 1 else 0) → ∀ j, j < i + 1 → gI (sI h 41 i x) 41 j = if bt g (s.tc j).toNatClampNeg = true then 1 else 0 := by
    intro x hx j hj
    by_cases h1 : j = i
    · subst h1; rw [e, cl_nI (by omega), ← hx]; simp [gI_sI]
    · rw [← q7 j (by omega)]; simp [gI_sI, h1]
  by_cases hb : bt g c = true
  · have s1 : Sx [9] h (sI h 41 i 1) := sx_sI (sx_refl _ _) (m41 _)
    have w1 := hm_sx w s1 (by decide)
    refine ⟨sJ (sI h 41 i 1) 27 27 (s.cm ||| E c), ?_, sx_sJ s1 (by decide), ?_⟩
    · show Ev 103 0 [some (.ref 27), some (.int (nI i)), none, none, none, none] [] h = _
      have q3' : gJ (sI h 41 i 1) 27 27 = s.cm := by simp only [gI_sI, gJ_sJ, gI_sJ, gJ_sI, Nat.reduceEqDiff, eq_self, and_true, true_and, and_false, false_and, and_self, if_true, if_false, reduceIte, Nat.succ_ne_zero, q3]
      have q41 : gI (sI h 41 i 1) 41 i = 1 := by simp [gI_sI]
      simp (disch := omega) only [b103_0, b103_6, b103_20, b103_23, b103_28, b103_29, b103_35, b103_39, b103_49, e10, e01, em10, eq_self, lt0_nI, ge0_nI, cl_nI, le_nI, lt_nI, eq_nI, ne_m1, le40, lt40, gd_nI, nI_1, yle, nle, ylt, nlt, reduceIte, if_true, if_false, and_true, true_and, and_false, false_and, or_true, true_or, or_false, false_or, not_true_eq_false, not_false_eq_true, rI_some, rL_some, rV_some, rA_ref, rA_null, b01, b01', i01, lcmp0, lcmp_lt, lcmp_gt, om1, m1_lt0, ec, q0, r_mholds, hb, q41, m_reach w1 hc, q3']
    · rw [tkAns, if_pos hb]
      refine ⟨?_, ?_, ?_, ?_, ?_, ?_, fun j hj => ?_, fun j hj => ?_⟩
      · simp only [gI_sI, gJ_sJ, gI_sJ, gJ_sI, Nat.reduceEqDiff, eq_self, and_true, true_and, and_false, false_and, and_self, if_true, if_false, reduceIte, Nat.succ_ne_zero, q0]
      · simp only [gI_sI, gJ_sJ, gI_sJ, gJ_sI, Nat.reduceEqDiff, eq_self, and_true, true_and, and_false, false_and, and_self, if_true, if_false, reduceIte, Nat.succ_ne_zero, q1]
      · simp only [gI_sI, gJ_sJ, gI_sJ, gJ_sI, Nat.reduceEqDiff, eq_self, and_true, true_and, and_false, false_and, and_self, if_true, if_false, reduceIte, Nat.succ_ne_zero, q2]
      · simp only [gI_sI, gJ_sJ, gI_sJ, gJ_sI, Nat.reduceEqDiff, eq_self, and_true, true_and, and_false, false_and, and_self, if_true, if_false, reduceIte, Nat.succ_ne_zero]
      · simp only [gI_sI, gJ_sJ, gI_sJ, gJ_sI, Nat.reduceEqDiff, eq_self, and_true, true_and, and_false, false_and, and_self, if_true, if_false, reduceIte, Nat.succ_ne_zero, q4]
      · simp only [gI_sI, gJ_sJ, gI_sJ, gJ_sI, Nat.reduceEqDiff, eq_self, and_true, true_and, and_false, false_and, and_self, if_true, if_false, reduceIte, Nat.succ_ne_zero, q5]
      · simp only [gI_sI, gJ_sJ, gI_sJ, gJ_sI, Nat.reduceEqDiff, eq_self, and_true, true_and, and_false, false_and, and_self, if_true, if_false, reduceIte, Nat.succ_ne_zero]; exact q6 j hj
      · rw [gI_sJ]; exact new41 1 (by rw [if_pos hb]) j hj
  · have s1 : Sx [9] h (sI h 41 i 0) := sx_sI (sx_refl _ _) (m41 _)
    have w1 := hm_sx w s1 (by decide)
    have q41 : gI (sI h 41 i 0) 41 i = 0 := by simp [gI_sI]
    obtain ⟨r4, r5, f1⟩ := ans_side (h := sI h 41 i 0) (show c < 40 by omega) hwf.1 (m_parent0 w1 hc) (nI i) none none s.pl s.bn s.cm (by simp only [gI_sI, gJ_sJ, gI_sJ, gJ_sI, Nat.reduceEqDiff, eq_self, and_true, true_and, and_false, false_and, and_self, if_true, if_false, reduceIte, Nat.succ_ne_zero, q1]) (by simp only [gI_sI, gJ_sJ, gI_sJ, gJ_sI, Nat.reduceEqDiff, eq_self, and_true, true_and, and_false, false_and, and_self, if_true, if_false, reduceIte, Nat.succ_ne_zero, q2]) (by simp only [gI_sI, gJ_sJ, gI_sJ, gJ_sI, Nat.reduceEqDiff, eq_self, and_true, true_and, and_false, false_and, and_self, if_true, if_false, reduceIte, Nat.succ_ne_zero, q3])
    obtain ⟨h2, eh2⟩ : ∃ h2, h2 = (sJ (sJ (sI h 41 i 0) 27 29 (s.pl ||| ((pb (P c) &&& (s.cm ^^^ (-1))) &&& (s.bn ^^^ (-1))))) 27 30 (s.bn ||| ((pb (P c) &&& (s.cm ^^^ (-1))) &&& (s.bn ^^^ (-1))))) := ⟨_, rfl⟩
    have s2 : Sx [9] h h2 := by rw [eh2]; exact sx_sJ (sx_sJ s1 (by decide)) (by decide)
    have w2 := hm_sx w s2 (by decide)
    rw [← eh2] at f1
    obtain ⟨t4, t5, f2⟩ := ans_side (h := h2) (show c < 40 by omega) hwf.2.1 (m_parent1 w2 hc) (nI i) r4 r5 (s.pl ||| ((pb (P c) &&& (s.cm ^^^ (-1))) &&& (s.bn ^^^ (-1)))) (s.bn ||| ((pb (P c) &&& (s.cm ^^^ (-1))) &&& (s.bn ^^^ (-1)))) s.cm (by rw [eh2]; simp only [gI_sI, gJ_sJ, gI_sJ, gJ_sI, Nat.reduceEqDiff, eq_self, and_true, true_and, and_false, false_and, and_self, if_true, if_false, reduceIte, Nat.succ_ne_zero]) (by rw [eh2]; simp only [gI_sI, gJ_sJ, gI_sJ, gJ_sI, Nat.reduceEqDiff, eq_self, and_true, true_and, and_false, false_and, and_self, if_true, if_false, reduceIte, Nat.succ_ne_zero]) (by rw [eh2]; simp only [gI_sI, gJ_sJ, gI_sJ, gJ_sI, Nat.reduceEqDiff, eq_self, and_true, true_and, and_false, false_and, and_self, if_true, if_false, reduceIte, Nat.succ_ne_zero, q3])
    rw [two_pl, two_bn] at f2
    refine ⟨sJ (sJ h2 27 29 (s.pl ||| ((par P Q c &&& (s.cm ^^^ (-1))) &&& (s.bn ^^^ (-1))))) 27 30 (s.bn ||| ((par P Q c &&& (s.cm ^^^ (-1))) &&& (s.bn ^^^ (-1)))), ?_, ?_, ?_⟩
    rotate_left 2
    · show TM (sJ (sJ h2 27 29 (s.pl ||| ((par P Q c &&& (s.cm ^^^ (-1))) &&& (s.bn ^^^ (-1))))) 27 30 (s.bn ||| ((par P Q c &&& (s.cm ^^^ (-1))) &&& (s.bn ^^^ (-1))))) g (i + 1) _
      rw [tkAns, if_neg hb]
      refine ⟨?_, ?_, ?_, ?_, ?_, ?_, fun j hj => ?_, fun j hj => ?_⟩
      · rw [eh2]; simp only [gI_sI, gJ_sJ, gI_sJ, gJ_sI, Nat.reduceEqDiff, eq_self, and_true, true_and, and_false, false_and, and_self, if_true, if_false, reduceIte, Nat.succ_ne_zero, q0]
      · simp only [gI_sI, gJ_sJ, gI_sJ, gJ_sI, Nat.reduceEqDiff, eq_self, and_true, true_and, and_false, false_and, and_self, if_true, if_false, reduceIte, Nat.succ_ne_zero]
      · simp only [gI_sI, gJ_sJ, gI_sJ, gJ_sI, Nat.reduceEqDiff, eq_self, and_true, true_and, and_false, false_and, and_self, if_true, if_false, reduceIte, Nat.succ_ne_zero]
      · rw [eh2]; simp only [gI_sI, gJ_sJ, gI_sJ, gJ_sI, Nat.reduceEqDiff, eq_self, and_true, true_and, and_false, false_and, and_self, if_true, if_false, reduceIte, Nat.succ_ne_zero, q3]
      · rw [eh2]; simp only [gI_sI, gJ_sJ, gI_sJ, gJ_sI, Nat.reduceEqDiff, eq_self, and_true, true_and, and_false, false_and, and_self, if_true, if_false, reduceIte, Nat.succ_ne_zero, q4]
      · rw [eh2]; simp only [gI_sI, gJ_sJ, gI_sJ, gJ_sI, Nat.reduceEqDiff, eq_self, and_true, true_and, and_false, false_and, and_self, if_true, if_false, reduceIte, Nat.succ_ne_zero, q5]
      · rw [eh2]; simp only [gI_sI, gJ_sJ, gI_sJ, gJ_sI, Nat.reduceEqDiff, eq_self, and_true, true_and, and_false, false_and, and_self, if_true, if_false, reduceIte, Nat.succ_ne_zero]; exact q6 j hj
      · rw [eh2]; simp only [gI_sJ]; exact new41 0 (by rw [if_neg hb]) j hj
    · show Ev 103 0 [some (.ref 27), some (.int (nI i)), none, none, none, none] [] h = _
      have n01 : ¬ (0 : Int32) = 1 := by decide
      simp (disch := omega) only [b103_0, b103_6, b103_20, b103_27, b103_28, b103_29, b103_35, b103_54, e10, e01, em10, eq_self, lt0_nI, ge0_nI, cl_nI, le_nI, lt_nI, eq_nI, ne_m1, le40, lt40, gd_nI, nI_1, yle, nle, ylt, nlt, reduceIte, if_true, if_false, and_true, true_and, and_false, false_and, or_true, true_or, or_false, false_or, not_true_eq_false, not_false_eq_true, rI_some, rL_some, rV_some, rA_ref, rA_null, b01, b01', i01, lcmp0, lcmp_lt, lcmp_gt, om1, m1_lt0, ec, q0, r_mholds, hb, Bool.false_eq_true, q41, n01]
      rw [b103_56, if_neg (show ¬ (2 : Int32) ≤ 0 by decide), f1, a01, b103_56, if_neg (show ¬ (2 : Int32) ≤ 1 by decide), f2, a11, b103_56, if_pos (show (2 : Int32) ≤ 2 by decide), b103_156]
      rfl
    · exact sx_sJ (sx_sJ s2 (by decide)) (by decide)
theorem mans_loop (g : Int64) (x1 x2 x3 : Int32) : ∀ (k i : Nat) (s : Tk) (h : mH), i + k = s.t → HM h n sl P Q K E → TM h g i s → TI n s → ∃ h', Ev 105 149 [some (.ref 27), some (.int x1), some (.int x2), some (.int x3), some (.int (nI i))] [] h = Ev 105 170 [some (.ref 27), some (.int x1), some (.int x2), some (.int x3), some (.int (nI s.t))] [] h' ∧ Sx [9] h h' ∧ TM h' g s.t (an P Q E g k i s)
  | 0, i, s, h, hk, w, q, t => by
    obtain rfl : i = s.t := by omega
    have h40 := w.2.2.2.2.2.2.1
    have ht := ti_t t
    refine ⟨h, ?_, sx_refl _ _, q⟩
    rw [b105_149, q.2.2.2.2.1]
    simp (disch := omega) only [e10, e01, em10, eq_self, lt0_nI, ge0_nI, cl_nI, le_nI, lt_nI, eq_nI, ne_m1, le40, lt40, gd_nI, nI_1, yle, nle, ylt, nlt, reduceIte, if_true, if_false, and_true, true_and, and_false, false_and, or_true, true_or, or_false, false_or, not_true_eq_false, not_false_eq_true, rI_some, rL_some, rV_some, rA_ref, rA_null, b01, b01', i01, lcmp0, lcmp_lt, lcmp_gt, om1, m1_lt0]
  | k + 1, i, s, h, hk, w, q, t => by
    have h40 := w.2.2.2.2.2.2.1
    have ht := ti_t t
    obtain ⟨c, hc, e⟩ := t.2.2.2.2 i (by omega)
    obtain ⟨h1, e1, e2, e3⟩ := r_answers w q (by omega) ht hc e
    have hans := (ans_t P Q E g s c)
    obtain ⟨h', f1, f2, f3⟩ := mans_loop g x1 x2 x3 k (i + 1) _ h1 (by rw [hans.1]; omega) (hm_sx w e2 (by decide)) e3 (ti_ans w.2.2.2.2.2.2 g t hc)
    rw [hans.1] at f1 f3
    refine ⟨h', ?_, sx_trans e2 f2, ?_⟩
    · rw [← f1, b105_149, q.2.2.2.2.1]
      simp (disch := omega) only [b105_158, b105_164, e10, e01, em10, eq_self, lt0_nI, ge0_nI, cl_nI, le_nI, lt_nI, eq_nI, ne_m1, le40, lt40, gd_nI, nI_1, yle, nle, ylt, nlt, reduceIte, if_true, if_false, and_true, true_and, and_false, false_and, or_true, true_or, or_false, false_or, not_true_eq_false, not_false_eq_true, rI_some, rL_some, rV_some, rA_ref, rA_null, b01, b01', i01, lcmp0, lcmp_lt, lcmp_gt, om1, m1_lt0, e1]
    · rw [an, e, cl_nI (by omega)]; exact f3
def sv (W : Int64) (E : Nat → Int64) (cm : Int64) : Nat → Bool
  | 0 => true
  | c + 1 => sv W E cm c && (!bt W c || !decide (E c &&& cm = 0))
theorem sv_no (W : Int64) (E : Nat → Int64) (cm : Int64) : ∀ (k c : Nat), sv W E cm c = false → sv W E cm (c + k) = false
  | 0, c, h => h
  | k + 1, c, h => by rw [← Nat.add_assoc, sv, sv_no W E cm k c h]; rfl
theorem served_loop {h : mH} (w : HC h n sl P Q K E) {W cm : Int64} (hW : gJ h 15 1 = W) (hcm : gJ h 15 10 = cm) : ∀ (k c : Nat), c + k = n → sv W E cm c = true → Ev 121 2 [some (.ref 15), some (.ref 1), some (.int (nI c))] [] h = some (some (.int (if sv W E cm n = true then 1 else 0)), h)
  | 0, c, hk, hs => by
    obtain rfl : c = n := by omega
    have h40 := w.2.2.2.2.2.2.2.1
    rw [b121_2, w.1]
    simp (disch := omega) only [b121_44, e10, e01, em10, eq_self, lt0_nI, ge0_nI, cl_nI, le_nI, lt_nI, eq_nI, ne_m1, le40, lt40, gd_nI, nI_1, yle, nle, ylt, nlt, reduceIte, if_true, if_false, and_true, true_and, and_false, false_and, or_true, true_or, or_false, false_or, not_true_eq_false, not_false_eq_true, rI_some, rL_some, rV_some, rA_ref, rA_null, b01, b01', i01, lcmp0, lcmp_lt, lcmp_gt, om1, m1_lt0, hs]
  | k + 1, c, hk, hs => by
    have h40 := w.2.2.2.2.2.2.2.1
    by_cases hb : bt W c = true
    · by_cases hz : E c &&& cm = 0
      · have : sv W E cm n = false := by
          rw [show n = (c + 1) + k by omega]
          exact sv_no W E cm k (c + 1) (by rw [sv, hb, hz]; simp)
        rw [this, b121_2, w.1]
        simp (disch := omega) only [b121_10, b121_18, b121_21, b121_26, b121_36, e10, e01, em10, eq_self, lt0_nI, ge0_nI, cl_nI, le_nI, lt_nI, eq_nI, ne_m1, le40, lt40, gd_nI, nI_1, yle, nle, ylt, nlt, reduceIte, if_true, if_false, and_true, true_and, and_false, false_and, or_true, true_or, or_false, false_or, not_true_eq_false, not_false_eq_true, rI_some, rL_some, rV_some, rA_ref, rA_null, b01, b01', i01, lcmp0, lcmp_lt, lcmp_gt, om1, m1_lt0, hW, hcm, r_isIn, hb, c_reach w (show c < n by omega), hz, Bool.false_eq_true]
      · refine Eq.trans ?_ (served_loop w hW hcm k (c + 1) (by omega) (by rw [sv, hs, hb]; simp [hz]))
        rw [b121_2, w.1]
        simp (disch := omega) only [b121_10, b121_18, b121_21, b121_26, b121_38, e10, e01, em10, eq_self, lt0_nI, ge0_nI, cl_nI, le_nI, lt_nI, eq_nI, ne_m1, le40, lt40, gd_nI, nI_1, yle, nle, ylt, nlt, reduceIte, if_true, if_false, and_true, true_and, and_false, false_and, or_true, true_or, or_false, false_or, not_true_eq_false, not_false_eq_true, rI_some, rL_some, rV_some, rA_ref, rA_null, b01, b01', i01, lcmp0, lcmp_lt, lcmp_gt, om1, m1_lt0, hW, hcm, r_isIn, hb, c_reach w (show c < n by omega), hz]
    · refine Eq.trans ?_ (served_loop w hW hcm k (c + 1) (by omega) (by rw [sv, hs, Bool.eq_false_iff.mpr hb]; simp))
      rw [b121_2, w.1]
      simp (disch := omega) only [b121_10, b121_18, b121_38, e10, e01, em10, eq_self, lt0_nI, ge0_nI, cl_nI, le_nI, lt_nI, eq_nI, ne_m1, le40, lt40, gd_nI, nI_1, yle, nle, ylt, nlt, reduceIte, if_true, if_false, and_true, true_and, and_false, false_and, or_true, true_or, or_false, false_or, not_true_eq_false, not_false_eq_true, rI_some, rL_some, rV_some, rA_ref, rA_null, b01, b01', i01, lcmp0, lcmp_lt, lcmp_gt, om1, m1_lt0, hW, r_isIn, hb, Bool.false_eq_true]
theorem r_isServed {h : mH} (w : HC h n sl P Q K E) : Rt 121 [.ref 15, .ref 1] h = some (some (.int (if sv (gJ h 15 1) E (gJ h 15 10) n = true then 1 else 0)), h) := by
  show Ev 121 0 [some (.ref 15), some (.ref 1), none] [] h = _
  rw [b121_0]
  exact served_loop w rfl rfl n 0 (by omega) rfl
theorem enough_loop {h : mH} (w : HM h n sl P Q K E) {W cm : Int64} (hW : gJ h 27 17 = W) (hcm : gJ h 27 27 = cm) (b : Bool) : ∀ (k c : Nat), c + k = n → Ev 104 16 [some (.ref 27), some (.int (if (b && sv W E cm c) = true then 1 else 0)), some (.int (nI c))] [] h = some (some (.int (if (b && sv W E cm n) = true then 1 else 0)), h)
  | 0, c, hk => by
    obtain rfl : c = n := by omega
    have h40 := w.2.2.2.2.2.2.1
    rw [b104_16, w.1]
    by_cases h1 : (b && sv W E cm c) = true
    · simp (disch := omega) only [b104_66, e10, e01, em10, eq_self, lt0_nI, ge0_nI, cl_nI, le_nI, lt_nI, eq_nI, ne_m1, le40, lt40, gd_nI, nI_1, yle, nle, ylt, nlt, reduceIte, if_true, if_false, and_true, true_and, and_false, false_and, or_true, true_or, or_false, false_or, not_true_eq_false, not_false_eq_true, rI_some, rL_some, rV_some, rA_ref, rA_null, b01, b01', i01, lcmp0, lcmp_lt, lcmp_gt, om1, m1_lt0, h1]
    · simp (disch := omega) only [b104_66, e10, e01, em10, eq_self, lt0_nI, ge0_nI, cl_nI, le_nI, lt_nI, eq_nI, ne_m1, le40, lt40, gd_nI, nI_1, yle, nle, ylt, nlt, reduceIte, if_true, if_false, and_true, true_and, and_false, false_and, or_true, true_or, or_false, false_or, not_true_eq_false, not_false_eq_true, rI_some, rL_some, rV_some, rA_ref, rA_null, b01, b01', i01, lcmp0, lcmp_lt, lcmp_gt, om1, m1_lt0, h1, Bool.false_eq_true]
  | k + 1, c, hk => by
    have h40 := w.2.2.2.2.2.2.1
    refine Eq.trans ?_ (enough_loop w hW hcm b k (c + 1) (by omega))
    rw [b104_16, w.1, sv]
    by_cases h1 : (b && sv W E cm c) = true
    · rw [← Bool.and_assoc, h1]
      by_cases hb : bt W c = true
      · by_cases hz : E c &&& cm = 0
        · simp (disch := omega) only [b104_24, b104_28, b104_36, b104_39, b104_44, b104_58, b104_59, e10, e01, em10, eq_self, lt0_nI, ge0_nI, cl_nI, le_nI, lt_nI, eq_nI, ne_m1, le40, lt40, gd_nI, nI_1, yle, nle, ylt, nlt, reduceIte, if_true, if_false, and_true, true_and, and_false, false_and, or_true, true_or, or_false, false_or, not_true_eq_false, not_false_eq_true, rI_some, rL_some, rV_some, rA_ref, rA_null, b01, b01', i01, lcmp0, lcmp_lt, lcmp_gt, om1, m1_lt0, hW, hcm, r_mholds, hb, m_reach w (show c < n by omega), hz, Bool.not_true, Bool.false_or, decide_true, Bool.and_false, Bool.false_eq_true]
        · simp (disch := omega) only [b104_24, b104_28, b104_36, b104_39, b104_44, b104_54, b104_59, e10, e01, em10, eq_self, lt0_nI, ge0_nI, cl_nI, le_nI, lt_nI, eq_nI, ne_m1, le40, lt40, gd_nI, nI_1, yle, nle, ylt, nlt, reduceIte, if_true, if_false, and_true, true_and, and_false, false_and, or_true, true_or, or_false, false_or, not_true_eq_false, not_false_eq_true, rI_some, rL_some, rV_some, rA_ref, rA_null, b01, b01', i01, lcmp0, lcmp_lt, lcmp_gt, om1, m1_lt0, hW, hcm, r_mholds, hb, m_reach w (show c < n by omega), hz, Bool.not_true, Bool.not_false, Bool.false_or, decide_false, Bool.and_true]
      · rw [Bool.eq_false_iff.mpr hb]
        simp (disch := omega) only [b104_24, b104_28, b104_36, b104_54, b104_59, e10, e01, em10, eq_self, lt0_nI, ge0_nI, cl_nI, le_nI, lt_nI, eq_nI, ne_m1, le40, lt40, gd_nI, nI_1, yle, nle, ylt, nlt, reduceIte, if_true, if_false, and_true, true_and, and_false, false_and, or_true, true_or, or_false, false_or, not_true_eq_false, not_false_eq_true, rI_some, rL_some, rV_some, rA_ref, rA_null, b01, b01', i01, lcmp0, lcmp_lt, lcmp_gt, om1, m1_lt0, hW, hcm, r_mholds, hb, Bool.not_false, Bool.true_or, Bool.and_true, Bool.false_eq_true]
    · rw [← Bool.and_assoc, Bool.eq_false_iff.mpr h1]
      simp (disch := omega) only [b104_24, b104_58, b104_59, e10, e01, em10, eq_self, lt0_nI, ge0_nI, cl_nI, le_nI, lt_nI, eq_nI, ne_m1, le40, lt40, gd_nI, nI_1, yle, nle, ylt, nlt, reduceIte, if_true, if_false, and_true, true_and, and_false, false_and, or_true, true_or, or_false, false_or, not_true_eq_false, not_false_eq_true, rI_some, rL_some, rV_some, rA_ref, rA_null, b01, b01', i01, lcmp0, lcmp_lt, lcmp_gt, om1, m1_lt0, Bool.false_and, Bool.false_eq_true]
theorem r_isEnough {h : mH} (w : HM h n sl P Q K E) : Rt 104 [.ref 27] h = some (some (.int (if (decide (gI h 27 15 = 1) && sv (gJ h 27 17) E (gJ h 27 27) n) = true then 1 else 0)), h) := by
  show Ev 104 0 [some (.ref 27), none, none] [] h = _
  refine Eq.trans ?_ (enough_loop w rfl rfl _ n 0 (by omega))
  rw [b104_0]
  by_cases h1 : gI h 27 15 = 1
  · simp (disch := omega) only [b104_8, b104_12, b104_13, e10, e01, em10, eq_self, lt0_nI, ge0_nI, cl_nI, le_nI, lt_nI, eq_nI, ne_m1, le40, lt40, gd_nI, nI_1, yle, nle, ylt, nlt, reduceIte, if_true, if_false, and_true, true_and, and_false, false_and, or_true, true_or, or_false, false_or, not_true_eq_false, not_false_eq_true, rI_some, rL_some, rV_some, rA_ref, rA_null, b01, b01', i01, lcmp0, lcmp_lt, lcmp_gt, om1, m1_lt0, h1, decide_true, sv, Bool.and_true]; rfl
  · simp (disch := omega) only [b104_8, b104_12, b104_13, e10, e01, em10, eq_self, lt0_nI, ge0_nI, cl_nI, le_nI, lt_nI, eq_nI, ne_m1, le40, lt40, gd_nI, nI_1, yle, nle, ylt, nlt, reduceIte, if_true, if_false, and_true, true_and, and_false, false_and, or_true, true_or, or_false, false_or, not_true_eq_false, not_false_eq_true, rI_some, rL_some, rV_some, rA_ref, rA_null, b01, b01', i01, lcmp0, lcmp_lt, lcmp_gt, om1, m1_lt0, h1, decide_false, sv, Bool.and_true, Bool.false_eq_true]; rfl
end AM
