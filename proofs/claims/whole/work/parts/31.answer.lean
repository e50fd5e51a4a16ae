/-! The talk: answers, and whether it is enough. -/
section AN
variable {n sl : Nat} {P Q K : Nat → Int32} {E : Nat → Int64}
theorem answer_loop (g : Int64) (x2 : Int32) : ∀ (k i : Nat) (s : Tk) (h : mH) (o4 o5 o6 : Option Value), i + k = s.t → HC h n sl P Q K E → TC h g s → TI n s → ∃ h', Ev 120 2 [some (.ref 15), some (.ref 1), some (.int x2), some (.int (nI i)), o4, o5, o6] [] h = some (none, h') ∧ Sx [5] h h' ∧ TC h' g (an P Q E g k i s)
  | 0, i, s, h, o4, o5, o6, hk, w, q, t => by
    have h40 := w.2.2.2.2.2.2.2.1
    have ht := ti_t t
    refine ⟨h, ?_, sx_refl _ _, q⟩
    rw [b120_2, q.2.2.2.2.1]
    simp (disch := omega) only [b120_108, e10, e01, em10, eq_self, lt0_nI, ge0_nI, cl_nI, le_nI, lt_nI, eq_nI, ne_m1, le40, lt40, gd_nI, nI_1, yle, nle, ylt, nlt, reduceIte, if_true, if_false, and_true, true_and, and_false, false_and, or_true, true_or, or_false, false_or, not_true_eq_false, not_false_eq_true, rI_some, rL_some, rV_some, rA_ref, rA_null, b01, b01', i01, lcmp0, lcmp_lt, lcmp_gt, om1, m1_lt0]
  | k + 1, i, s, h, o4, o5, o6, hk, w, q, t => by
    have h40 := w.2.2.2.2.2.2.2.1
    have ht := ti_t t
    have m15 : ∀ j, 6 ≤ j → rg 15 j ∈ [5] := fun j hj => by simp [rg, hj]
    have q' := q
    obtain ⟨q0, q1, q2, q3, q4, q5, q6⟩ := q'
    obtain ⟨c, hc, e⟩ := t.2.2.2.2 i (by omega)
    have ec : gI h 16 i = nI c := by rw [(q6 i (by omega)).1, e]
    have hans := (ans_t P Q E g s c)
    have turn : ∃ h1 r5 r6, Ev 120 2 [some (.ref 15), some (.ref 1), some (.int x2), some (.int (nI i)), o4, o5, o6] [] h = Ev 120 2 [some (.ref 15), some (.ref 1), some (.int x2), some (.int (nI (i + 1))), some (.int (nI c)), r5, r6] [] h1 ∧ Sx [5] h h1 ∧ TC h1 g (tkAns P Q E g s c) := by
      by_cases hb : bt g c = true
      · refine ⟨sJ h 15 10 (s.cm ||| E c), o5, o6, ?_, sx_sJ (sx_refl _ _) (m15 _ (by omega)), ?_⟩
        · rw [b120_2, q4]
          simp (disch := omega) only [b120_10, b120_16, b120_22, b120_33, b120_36, b120_47, b120_102, e10, e01, em10, eq_self, lt0_nI, ge0_nI, cl_nI, le_nI, lt_nI, eq_nI, ne_m1, le40, lt40, gd_nI, nI_1, yle, nle, ylt, nlt, reduceIte, if_true, if_false, and_true, true_and, and_false, false_and, or_true, true_or, or_false, false_or, not_true_eq_false, not_false_eq_true, rI_some, rL_some, rV_some, rA_ref, rA_null, b01, b01', i01, lcmp0, lcmp_lt, lcmp_gt, om1, m1_lt0, ec, r_isIn, q0, q3, hb, c_reach w hc]
        · rw [tkAns, if_pos hb]
          refine ⟨?_, ?_, ?_, ?_, ?_, ?_, fun j hj => ?_⟩
          · simp only [gI_sI, gJ_sJ, gI_sJ, gJ_sI, Nat.reduceEqDiff, eq_self, and_true, true_and, and_false, false_and, and_self, if_true, if_false, reduceIte, Nat.succ_ne_zero, q0]
          · simp only [gI_sI, gJ_sJ, gI_sJ, gJ_sI, Nat.reduceEqDiff, eq_self, and_true, true_and, and_false, false_and, and_self, if_true, if_false, reduceIte, Nat.succ_ne_zero, q1]
          · simp only [gI_sI, gJ_sJ, gI_sJ, gJ_sI, Nat.reduceEqDiff, eq_self, and_true, true_and, and_false, false_and, and_self, if_true, if_false, reduceIte, Nat.succ_ne_zero, q2]
          · simp only [gI_sI, gJ_sJ, gI_sJ, gJ_sI, Nat.reduceEqDiff, eq_self, and_true, true_and, and_false, false_and, and_self, if_true, if_false, reduceIte, Nat.succ_ne_zero]
          · simp only [gI_sI, gJ_sJ, gI_sJ, gJ_sI, Nat.reduceEqDiff, eq_self, and_true, true_and, and_false, false_and, and_self, if_true, if_false, reduceIte, Nat.succ_ne_zero, q4]
          · simp only [gI_sI, gJ_sJ, gI_sJ, gJ_sI, Nat.reduceEqDiff, eq_self, and_true, true_and, and_false, false_and, and_self, if_true, if_false, reduceIte, Nat.succ_ne_zero, q5]
          · simp only [gI_sI, gJ_sJ, gI_sJ, gJ_sI, Nat.reduceEqDiff, eq_self, and_true, true_and, and_false, false_and, and_self, if_true, if_false, reduceIte, Nat.succ_ne_zero]; exact q6 j hj
      · refine ⟨sJ (sJ h 15 8 (s.pl ||| ((par P Q c &&& (s.cm ^^^ (-1))) &&& (s.bn ^^^ (-1))))) 15 9 (s.bn ||| ((par P Q c &&& (s.cm ^^^ (-1))) &&& (s.bn ^^^ (-1)))), some (.long ((par P Q c &&& (s.cm ^^^ (-1))) &&& (s.bn ^^^ (-1)))), none, ?_, sx_sJ (sx_sJ (sx_refl _ _) (m15 _ (by omega))) (m15 _ (by omega)), ?_⟩
        · rw [b120_2, q4]
          simp (disch := omega) only [b120_10, b120_16, b120_22, b120_33, b120_54, b120_60, b120_102, e10, e01, em10, eq_self, lt0_nI, ge0_nI, cl_nI, le_nI, lt_nI, eq_nI, ne_m1, le40, lt40, gd_nI, nI_1, yle, nle, ylt, nlt, reduceIte, if_true, if_false, and_true, true_and, and_false, false_and, or_true, true_or, or_false, false_or, not_true_eq_false, not_false_eq_true, rI_some, rL_some, rV_some, rA_ref, rA_null, b01, b01', i01, lcmp0, lcmp_lt, lcmp_gt, om1, m1_lt0, ec, r_isIn, q0, q1, q2, q3, hb, Bool.false_eq_true, c_par w hc, gI_sI, gJ_sJ, gI_sJ, gJ_sI, Nat.reduceEqDiff, eq_self, and_true, true_and, and_false, false_and, and_self, if_true, if_false, reduceIte, Nat.succ_ne_zero]
        · rw [tkAns, if_neg hb]
          refine ⟨?_, ?_, ?_, ?_, ?_, ?_, fun j hj => ?_⟩
          · simp only [gI_sI, gJ_sJ, gI_sJ, gJ_sI, Nat.reduceEqDiff, eq_self, and_true, true_and, and_false, false_and, and_self, if_true, if_false, reduceIte, Nat.succ_ne_zero, q0]
          · simp only [gI_sI, gJ_sJ, gI_sJ, gJ_sI, Nat.reduceEqDiff, eq_self, and_true, true_and, and_false, false_and, and_self, if_true, if_false, reduceIte, Nat.succ_ne_zero]
          · simp only [gI_sI, gJ_sJ, gI_sJ, gJ_sI, Nat.reduceEqDiff, eq_self, and_true, true_and, and_false, false_and, and_self, if_true, if_false, reduceIte, Nat.succ_ne_zero]
          · simp only [gI_sI, gJ_sJ, gI_sJ, gJ_sI, Nat.reduceEqDiff, eq_self, and_true, true_and, and_false, false_and, and_self, if_true, if_false, reduceIte, Nat.succ_ne_zero, q3]
          · simp only [gI_sI, gJ_sJ, gI_sJ, gJ_sI, Nat.reduceEqDiff, eq_self, and_true, true_and, and_false, false_and, and_self, if_true, if_false, reduceIte, Nat.succ_ne_zero, q4]
          · simp only [gI_sI, gJ_sJ, gI_sJ, gJ_sI, Nat.reduceEqDiff, eq_self, and_true, true_and, and_false, false_and, and_self, if_true, if_false, reduceIte, Nat.succ_ne_zero, q5]
          · simp only [gI_sI, gJ_sJ, gI_sJ, gJ_sI, Nat.reduceEqDiff, eq_self, and_true, true_and, and_false, false_and, and_self, if_true, if_false, reduceIte, Nat.succ_ne_zero]; exact q6 j hj
    obtain ⟨h1, r5, r6, e1, e2, e3⟩ := turn
    obtain ⟨h', f1, f2, f3⟩ := answer_loop g x2 k (i + 1) _ h1 (some (.int (nI c))) r5 r6 (by rw [hans.1]; omega) (hc_sx w e2 (by decide)) e3 (ti_ans w.2.2.2.2.2.2.2 g t hc)
    refine ⟨h', by rw [e1]; exact f1, sx_trans e2 f2, ?_⟩
    rw [an, e, cl_nI (by omega)]; exact f3
/-- one side of what the model puts on the pile -/
theorem ans_side {h : mH} {c : Nat} (hc : c < 40) {v sd : Int32} (hv : okp v c) (hpar : Rt 73 [.ref 27, .int (nI c), .int sd] h = some (some (.int v), h)) (x1 : Int32) (o4 o5 : Option Value) (pl bn cm : Int64) (q1 : gJ h 27 29 = pl) (q2 : gJ h 27 30 = bn) (q3 : gJ h 27 27 = cm) : ∃ r4 r5, Ev 103 61 [some (.ref 27), some (.int x1), some (.int (nI c)), some (.int sd), o4, o5] [] h = Ev 103 56 [some (.ref 27), some (.int x1), some (.int (nI c)), some (.int (sd + 1)), r4, r5] [] (sJ (sJ h 27 29 (pl ||| ((pb v &&& (cm ^^^ (-1))) &&& (bn ^^^ (-1))))) 27 30 (bn ||| ((pb v &&& (cm ^^^ (-1))) &&& (bn ^^^ (-1))))) := by
  have tail0 : ∀ (v : Int32), Ev 103 103 [some (.ref 27), some (.int x1), some (.int (nI c)), some (.int sd), some (.int v), o5] [] h = Ev 103 56 [some (.ref 27), some (.int x1), some (.int (nI c)), some (.int (sd + 1)), some (.int v), some (.int 0)] [] (sJ (sJ h 27 29 (pl ||| 0)) 27 30 (bn ||| 0)) := by
    intro v
    simp (disch := omega) only [b103_103, b103_104, b103_123, b103_124, b103_145, b103_146, e10, e01, em10, eq_self, lt0_nI, ge0_nI, cl_nI, le_nI, lt_nI, eq_nI, ne_m1, le40, lt40, gd_nI, nI_1, yle, nle, ylt, nlt, reduceIte, if_true, if_false, and_true, true_and, and_false, false_and, or_true, true_or, or_false, false_or, not_true_eq_false, not_false_eq_true, rI_some, rL_some, rV_some, rA_ref, rA_null, b01, b01', i01, lcmp0, lcmp_lt, lcmp_gt, om1, m1_lt0, gI_sI, gJ_sJ, gI_sJ, gJ_sI, Nat.reduceEqDiff, eq_self, and_true, true_and, and_false, false_and, and_self, if_true, if_false, reduceIte, Nat.succ_ne_zero, q1, q2]
  have z0 : ∀ x : Int64, (0 &&& x : Int64) = 0 := fun x => by apply bt_ext; intro j hj; rw [bt_and, bt_zero]; rfl
  rcases hv with rfl | ⟨p, hp, rfl⟩
  · rw [pb_m1, z0, z0]
    refine ⟨_, _, Eq.trans ?_ (tail0 (-1))⟩
    simp (disch := omega) only [b103_61, b103_67, e10, e01, em10, eq_self, lt0_nI, ge0_nI, cl_nI, le_nI, lt_nI, eq_nI, ne_m1, le40, lt40, gd_nI, nI_1, yle, nle, ylt, nlt, reduceIte, if_true, if_false, and_true, true_and, and_false, false_and, or_true, true_or, or_false, false_or, not_true_eq_false, not_false_eq_true, rI_some, rL_some, rV_some, rA_ref, rA_null, b01, b01', i01, lcmp0, lcmp_lt, lcmp_gt, om1, m1_lt0, hpar]
  · rw [pb_nI (by omega)]
    by_cases h1 : bt cm p = true
    · have e : (ob p &&& (cm ^^^ (-1))) &&& (bn ^^^ (-1)) = 0 := by
        apply bt_ext; intro j hj
        rw [bt_and, bt_and, bt_ob (by omega), bt_not _ hj, bt_not _ hj, bt_zero]
        by_cases hj' : j = p
        · subst hj'; rw [h1]; simp
        · simp [hj']
      rw [e]
      refine ⟨_, _, Eq.trans ?_ (tail0 (nI p))⟩
      simp (disch := omega) only [b103_61, b103_67, b103_75, b103_84, e10, e01, em10, eq_self, lt0_nI, ge0_nI, cl_nI, le_nI, lt_nI, eq_nI, ne_m1, le40, lt40, gd_nI, nI_1, yle, nle, ylt, nlt, reduceIte, if_true, if_false, and_true, true_and, and_false, false_and, or_true, true_or, or_false, false_or, not_true_eq_false, not_false_eq_true, rI_some, rL_some, rV_some, rA_ref, rA_null, b01, b01', i01, lcmp0, lcmp_lt, lcmp_gt, om1, m1_lt0, hpar, q3, r_mholds, h1]
    · by_cases h2 : bt bn p = true
      · have e : (ob p &&& (cm ^^^ (-1))) &&& (bn ^^^ (-1)) = 0 := by
          apply bt_ext; intro j hj
          rw [bt_and, bt_and, bt_ob (by omega), bt_not _ hj, bt_not _ hj, bt_zero]
          by_cases hj' : j = p
          · subst hj'; rw [h2]; simp
          · simp [hj']
        rw [e]
        refine ⟨_, _, Eq.trans ?_ (tail0 (nI p))⟩
        simp (disch := omega) only [b103_61, b103_67, b103_75, b103_84, b103_87, b103_96, e10, e01, em10, eq_self, lt0_nI, ge0_nI, cl_nI, le_nI, lt_nI, eq_nI, ne_m1, le40, lt40, gd_nI, nI_1, yle, nle, ylt, nlt, reduceIte, if_true, if_false, and_true, true_and, and_false, false_and, or_true, true_or, or_false, false_or, not_true_eq_false, not_false_eq_true, rI_some, rL_some, rV_some, rA_ref, rA_null, b01, b01', i01, lcmp0, lcmp_lt, lcmp_gt, om1, m1_lt0, hpar, q2, q3, r_mholds, h1, h2, Bool.false_eq_true]
      · have e : (ob p &&& (cm ^^^ (-1))) &&& (bn ^^^ (-1)) = ob p := by
          apply bt_ext; intro j hj
          rw [bt_and, bt_and, bt_ob (by omega), bt_not _ hj, bt_not _ hj]
          by_cases hj' : j = p
          · subst hj'; rw [Bool.eq_false_iff.mpr h1, Bool.eq_false_iff.mpr h2]; simp
          · simp [hj']
        rw [e]
        refine ⟨some (.int (nI p)), some (.int 1), ?_⟩
        simp (disch := omega) only [b103_61, b103_67, b103_75, b103_84, b103_87, b103_96, b103_99, b103_104, b103_116, b103_124, b103_138, b103_146, e10, e01, em10, eq_self, lt0_nI, ge0_nI, cl_nI, le_nI, lt_nI, eq_nI, ne_m1, le40, lt40, gd_nI, nI_1, yle, nle, ylt, nlt, reduceIte, if_true, if_false, and_true, true_and, and_false, false_and, or_true, true_or, or_false, false_or, not_true_eq_false, not_false_eq_true, rI_some, rL_some, rV_some, rA_ref, rA_null, b01, b01', i01, lcmp0, lcmp_lt, lcmp_gt, om1, m1_lt0, gI_sI, gJ_sJ, gI_sJ, gJ_sI, Nat.reduceEqDiff, eq_self, and_true, true_and, and_false, false_and, and_self, if_true, if_false, reduceIte, Nat.succ_ne_zero, hpar, q1, q2, q3, r_mholds, h1, h2, Bool.false_eq_true, sh_ob']
end AN
