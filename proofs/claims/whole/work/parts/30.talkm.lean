/-! The talk: the model tells; both answer. -/
section TM0
variable {n sl : Nat} {P Q K : Nat → Int32} {E : Nat → Int64}
theorem m_told {h : mH} (w : HM h n sl P Q K E) {g : Int64} {m : Nat} {s : Tk} (q : TM h g m s) : Rt 102 [.ref 27] h = some (some (.int (tG K s.pl n)), if tG K s.pl n = -1 then sJ h 27 29 (s.pl &&& s.pl) else sJ h 27 29 (s.pl &&& (ob (tG K s.pl n).toNatClampNeg ^^^ (-1)))) := by
  obtain ⟨w1, w2, w3, w4, w5, w6, w8⟩ := w
  rw [r_nextTold w1 w8.1, w6, q.2.1]
theorem tm_off {h : mH} {g : Int64} {m : Nat} {s : Tk} (q : TM h g m s) (c : Nat) : TM (sJ h 27 29 (s.pl &&& (ob c ^^^ (-1)))) g m (tkOff s c) := by
  obtain ⟨q0, q1, q2, q3, q4, q5, q6, q7⟩ := q
  refine ⟨?_, ?_, ?_, ?_, ?_, ?_, fun i hi => ?_, fun i hi => ?_⟩
  · simp only [gI_sI, gJ_sJ, gI_sJ, gJ_sI, Nat.reduceEqDiff, eq_self, and_true, true_and, and_false, false_and, and_self, if_true, if_false, reduceIte, Nat.succ_ne_zero, q0]
  · simp only [gI_sI, gJ_sJ, gI_sJ, gJ_sI, Nat.reduceEqDiff, eq_self, and_true, true_and, and_false, false_and, and_self, if_true, if_false, reduceIte, Nat.succ_ne_zero]; rfl
  · simp only [gI_sI, gJ_sJ, gI_sJ, gJ_sI, Nat.reduceEqDiff, eq_self, and_true, true_and, and_false, false_and, and_self, if_true, if_false, reduceIte, Nat.succ_ne_zero, q2]; rfl
  · simp only [gI_sI, gJ_sJ, gI_sJ, gJ_sI, Nat.reduceEqDiff, eq_self, and_true, true_and, and_false, false_and, and_self, if_true, if_false, reduceIte, Nat.succ_ne_zero, q3]; rfl
  · simp only [gI_sI, gJ_sJ, gI_sJ, gJ_sI, Nat.reduceEqDiff, eq_self, and_true, true_and, and_false, false_and, and_self, if_true, if_false, reduceIte, Nat.succ_ne_zero, q4]; rfl
  · simp only [gI_sI, gJ_sJ, gI_sJ, gJ_sI, Nat.reduceEqDiff, eq_self, and_true, true_and, and_false, false_and, and_self, if_true, if_false, reduceIte, Nat.succ_ne_zero, q5]; rfl
  · simp only [gI_sI, gJ_sJ, gI_sJ, gJ_sI, Nat.reduceEqDiff, eq_self, and_true, true_and, and_false, false_and, and_self, if_true, if_false, reduceIte, Nat.succ_ne_zero]; exact q6 i hi
  · simp only [gI_sI, gJ_sJ, gI_sJ, gJ_sI, Nat.reduceEqDiff, eq_self, and_true, true_and, and_false, false_and, and_self, if_true, if_false, reduceIte, Nat.succ_ne_zero]; exact q7 i hi
theorem tm_same {h : mH} {g : Int64} {m : Nat} {s : Tk} (q : TM h g m s) : TM (sJ h 27 29 (s.pl &&& s.pl)) g m s := by
  obtain ⟨q0, q1, q2, q3, q4, q5, q6, q7⟩ := q
  refine ⟨?_, ?_, ?_, ?_, ?_, ?_, fun i hi => ?_, fun i hi => ?_⟩
  · simp only [gI_sI, gJ_sJ, gI_sJ, gJ_sI, Nat.reduceEqDiff, eq_self, and_true, true_and, and_false, false_and, and_self, if_true, if_false, reduceIte, Nat.succ_ne_zero, q0]
  · simp only [gI_sI, gJ_sJ, gI_sJ, gJ_sI, Nat.reduceEqDiff, eq_self, and_true, true_and, and_false, false_and, and_self, if_true, if_false, reduceIte, Nat.succ_ne_zero]; exact Int64.and_self
  · simp only [gI_sI, gJ_sJ, gI_sJ, gJ_sI, Nat.reduceEqDiff, eq_self, and_true, true_and, and_false, false_and, and_self, if_true, if_false, reduceIte, Nat.succ_ne_zero, q2]
  · simp only [gI_sI, gJ_sJ, gI_sJ, gJ_sI, Nat.reduceEqDiff, eq_self, and_true, true_and, and_false, false_and, and_self, if_true, if_false, reduceIte, Nat.succ_ne_zero, q3]
  · simp only [gI_sI, gJ_sJ, gI_sJ, gJ_sI, Nat.reduceEqDiff, eq_self, and_true, true_and, and_false, false_and, and_self, if_true, if_false, reduceIte, Nat.succ_ne_zero, q4]
  · simp only [gI_sI, gJ_sJ, gI_sJ, gJ_sI, Nat.reduceEqDiff, eq_self, and_true, true_and, and_false, false_and, and_self, if_true, if_false, reduceIte, Nat.succ_ne_zero, q5]
  · simp only [gI_sI, gJ_sJ, gI_sJ, gJ_sI, Nat.reduceEqDiff, eq_self, and_true, true_and, and_false, false_and, and_self, if_true, if_false, reduceIte, Nat.succ_ne_zero]; exact q6 i hi
  · simp only [gI_sI, gJ_sJ, gI_sJ, gJ_sI, Nat.reduceEqDiff, eq_self, and_true, true_and, and_false, false_and, and_self, if_true, if_false, reduceIte, Nat.succ_ne_zero]; exact q7 i hi
theorem tm_tell {h : mH} {g : Int64} {m : Nat} {s : Tk} (q : TM h g m s) (hm : m ≤ s.t) (c : Nat) : TM (sI (sI (sI (sJ h 27 29 (s.pl &&& (ob c ^^^ (-1)))) 40 s.t (nI c)) 42 s.t (nI s.hd)) 27 23 (nI (s.t + 1))) g m (tkTell s c) := by
  obtain ⟨q0, q1, q2, q3, q4, q5, q6, q7⟩ := q
  refine ⟨?_, ?_, ?_, ?_, ?_, ?_, fun i hi => ?_, fun i hi => ?_⟩
  · simp only [gI_sI, gJ_sJ, gI_sJ, gJ_sI, Nat.reduceEqDiff, eq_self, and_true, true_and, and_false, false_and, and_self, if_true, if_false, reduceIte, Nat.succ_ne_zero, q0]
  · simp only [gI_sI, gJ_sJ, gI_sJ, gJ_sI, Nat.reduceEqDiff, eq_self, and_true, true_and, and_false, false_and, and_self, if_true, if_false, reduceIte, Nat.succ_ne_zero]; rfl
  · simp only [gI_sI, gJ_sJ, gI_sJ, gJ_sI, Nat.reduceEqDiff, eq_self, and_true, true_and, and_false, false_and, and_self, if_true, if_false, reduceIte, Nat.succ_ne_zero, q2]; rfl
  · simp only [gI_sI, gJ_sJ, gI_sJ, gJ_sI, Nat.reduceEqDiff, eq_self, and_true, true_and, and_false, false_and, and_self, if_true, if_false, reduceIte, Nat.succ_ne_zero, q3]; rfl
  · simp only [gI_sI, gJ_sJ, gI_sJ, gJ_sI, Nat.reduceEqDiff, eq_self, and_true, true_and, and_false, false_and, and_self, if_true, if_false, reduceIte, Nat.succ_ne_zero]; rfl
  · simp only [gI_sI, gJ_sJ, gI_sJ, gJ_sI, Nat.reduceEqDiff, eq_self, and_true, true_and, and_false, false_and, and_self, if_true, if_false, reduceIte, Nat.succ_ne_zero, q5]; rfl
  · show _ = up s.tc s.t (nI c) i ∧ _ = up s.tr s.t (nI s.hd) i
    have hi' : i < s.t + 1 := hi
    unfold up
    by_cases h1 : i = s.t
    · subst h1; constructor <;> simp [gI_sI, gI_sJ]
    · have := q6 i (by omega)
      constructor <;> simp [gI_sI, gI_sJ, h1, this]
  · show _ = if bt g (up s.tc s.t (nI c) i).toNatClampNeg = true then 1 else 0
    have h1 : ¬ i = s.t := by omega
    rw [up, if_neg h1, ← q7 i hi]
    simp only [gI_sI, gJ_sJ, gI_sJ, gJ_sI, Nat.reduceEqDiff, eq_self, and_true, true_and, and_false, false_and, and_self, if_true, if_false, reduceIte, Nat.succ_ne_zero]
/-- from the place where the model asks whether to take another -/
theorem mtell_loop (g : Int64) (x1 : Int32) (fr per : Nat) (hfr : fr ≤ 40) (hper : per < 100) : ∀ (f left : Nat) (s : Tk) (h : mH) (x3 : Int32) (o4 : Option Value), ct s.pl n ≤ f → fr + per = s.t + left → fr ≤ s.t → HM h n sl P Q K E → gI h 27 14 = nI per → TM h g fr s → TI n s → ∃ h', Ev 105 121 [some (.ref 27), some (.int x1), some (.int (nI fr)), some (.int x3), o4] [] h = Ev 105 146 [some (.ref 27), some (.int x1), some (.int (nI fr)), some (.int (-1)), o4] [] h' ∧ Sx [9] h h' ∧ TM h' g fr (tl K n f left s) := by
  intro f
  induction f with
  | zero =>
    intro left s h x3 o4 hf hl hs w hp q i
    have h40 := w.2.2.2.2.2.2.1
    have h2 : s.pl = 0 := sub_zero_of_ct i.1 (by omega)
    have ht := ti_t i
    by_cases h1 : left = 0
    · subst h1; rw [tl_0]
      refine ⟨h, ?_, sx_refl _ _, q⟩
      rw [b105_121, hp, q.2.2.2.2.1, pk_sub hs]
      simp (disch := omega) only [b105_72, b105_141, b105_142, e10, e01, em10, eq_self, lt0_nI, ge0_nI, cl_nI, le_nI, lt_nI, eq_nI, ne_m1, le40, lt40, gd_nI, nI_1, yle, nle, ylt, nlt, reduceIte, if_true, if_false, and_true, true_and, and_false, false_and, or_true, true_or, or_false, false_or, not_true_eq_false, not_false_eq_true, rI_some, rL_some, rV_some, rA_ref, rA_null, b01, b01', i01, lcmp0, lcmp_lt, lcmp_gt, om1, m1_lt0]
    · rw [tl_p _ _ _ _ _ h2]
      have htop : tG K s.pl n = -1 := by
        rcases tG_or K s.pl n with h | ⟨d, _, _, h⟩
        · exact h
        · rw [h2, bt_zero] at h; cases h
      refine ⟨_, ?_, ?_, tm_same q⟩
      · rw [b105_121, hp, q.2.2.2.2.1, pk_sub hs]
        simp (disch := omega) only [b105_72, b105_134, b105_138, b105_142, e10, e01, em10, eq_self, lt0_nI, ge0_nI, cl_nI, le_nI, lt_nI, eq_nI, ne_m1, le40, lt40, gd_nI, nI_1, yle, nle, ylt, nlt, reduceIte, if_true, if_false, and_true, true_and, and_false, false_and, or_true, true_or, or_false, false_or, not_true_eq_false, not_false_eq_true, rI_some, rL_some, rV_some, rA_ref, rA_null, b01, b01', i01, lcmp0, lcmp_lt, lcmp_gt, om1, m1_lt0, m_told w q, htop]
      · exact sx_sJ (sx_refl _ _) (by decide)
  | succ f ih =>
    intro left s h x3 o4 hf hl hs w hp q i
    have h40 := w.2.2.2.2.2.2.1
    have ht := ti_t i
    by_cases h1 : left = 0
    · subst h1; rw [tl_0]
      refine ⟨h, ?_, sx_refl _ _, q⟩
      rw [b105_121, hp, q.2.2.2.2.1, pk_sub hs]
      simp (disch := omega) only [b105_72, b105_141, b105_142, e10, e01, em10, eq_self, lt0_nI, ge0_nI, cl_nI, le_nI, lt_nI, eq_nI, ne_m1, le40, lt40, gd_nI, nI_1, yle, nle, ylt, nlt, reduceIte, if_true, if_false, and_true, true_and, and_false, false_and, or_true, true_or, or_false, false_or, not_true_eq_false, not_false_eq_true, rI_some, rL_some, rV_some, rA_ref, rA_null, b01, b01', i01, lcmp0, lcmp_lt, lcmp_gt, om1, m1_lt0]
    by_cases h2 : s.pl = 0
    · rw [tl_p _ _ _ _ _ h2]
      have htop : tG K s.pl n = -1 := by
        rcases tG_or K s.pl n with h | ⟨d, _, _, h⟩
        · exact h
        · rw [h2, bt_zero] at h; cases h
      refine ⟨_, ?_, ?_, tm_same q⟩
      · rw [b105_121, hp, q.2.2.2.2.1, pk_sub hs]
        simp (disch := omega) only [b105_72, b105_134, b105_138, b105_142, e10, e01, em10, eq_self, lt0_nI, ge0_nI, cl_nI, le_nI, lt_nI, eq_nI, ne_m1, le40, lt40, gd_nI, nI_1, yle, nle, ylt, nlt, reduceIte, if_true, if_false, and_true, true_and, and_false, false_and, or_true, true_or, or_false, false_or, not_true_eq_false, not_false_eq_true, rI_some, rL_some, rV_some, rA_ref, rA_null, b01, b01', i01, lcmp0, lcmp_lt, lcmp_gt, om1, m1_lt0, m_told w q, htop]
      · exact sx_sJ (sx_refl _ _) (by decide)
    obtain ⟨c, hc, htop, hb⟩ := top_of (g := K) h40 i.1 h2
    have hlt := ti_lt (by omega) i hc hb
    have hcd := ct_del hc hb (by omega)
    have ne1 : ¬ nI c = -1 := by rw [ne_m1 (by omega)]; exact fun q => q
    obtain ⟨h3, e3⟩ : ∃ h3, h3 = sJ h 27 29 (s.pl &&& (ob c ^^^ (-1))) := ⟨_, rfl⟩
    have s3 : Sx [9] h h3 := by rw [e3]; exact sx_sJ (sx_refl _ _) (by decide)
    have w3 := hm_sx w s3 (by decide)
    have qo := tm_off q c
    rw [← e3] at qo
    have hT : Rt 102 [.ref 27] h = some (some (.int (nI c)), h3) := by
      rw [m_told w q, htop, if_neg ne1, cl_nI (by omega), e3]
    have pre : Ev 105 121 [some (.ref 27), some (.int x1), some (.int (nI fr)), some (.int x3), o4] [] h = Ev 105 85 [some (.ref 27), some (.int x1), some (.int (nI fr)), some (.int (nI c)), o4] [.int (if bt s.cm c = true then 1 else 0)] h3 := by
      have q3' : gJ h3 27 27 = s.cm := qo.2.2.2.1
      rw [b105_121, hp, q.2.2.2.2.1, pk_sub hs]
      simp (disch := omega) only [b105_72, b105_77, b105_134, b105_138, b105_142, e10, e01, em10, eq_self, lt0_nI, ge0_nI, cl_nI, le_nI, lt_nI, eq_nI, ne_m1, le40, lt40, gd_nI, nI_1, yle, nle, ylt, nlt, reduceIte, if_true, if_false, and_true, true_and, and_false, false_and, or_true, true_or, or_false, false_or, not_true_eq_false, not_false_eq_true, rI_some, rL_some, rV_some, rA_ref, rA_null, b01, b01', i01, lcmp0, lcmp_lt, lcmp_gt, om1, m1_lt0, hT, q3', r_mholds]
    rw [pre]
    have hp3 : gI h3 27 14 = nI per := by rw [(s3 27 14 (by decide)).1]; exact hp
    by_cases h4 : bt s.cm c = true
    · rw [tl_in h1 h2 htop (by omega) h4]
      obtain ⟨h', f1, f2, f3⟩ := ih left (tkOff s c) h3 (nI c) o4 (by show ct (s.pl &&& (ob c ^^^ (-1))) n ≤ f; omega) hl hs w3 hp3 qo (ti_off (by omega) i hc hb)
      refine ⟨h', ?_, sx_trans s3 f2, f3⟩
      rw [← f1]
      simp (disch := omega) only [b105_85, e10, e01, em10, eq_self, lt0_nI, ge0_nI, cl_nI, le_nI, lt_nI, eq_nI, ne_m1, le40, lt40, gd_nI, nI_1, yle, nle, ylt, nlt, reduceIte, if_true, if_false, and_true, true_and, and_false, false_and, or_true, true_or, or_false, false_or, not_true_eq_false, not_false_eq_true, rI_some, rL_some, rV_some, rA_ref, rA_null, b01, b01', i01, lcmp0, lcmp_lt, lcmp_gt, om1, m1_lt0, h4]
    · rw [tl_out h1 h2 htop (by omega) h4]
      obtain ⟨h4', e4⟩ : ∃ h4', h4' = sI (sI (sI (sJ h 27 29 (s.pl &&& (ob c ^^^ (-1)))) 40 s.t (nI c)) 42 s.t (nI s.hd)) 27 23 (nI (s.t + 1)) := ⟨_, rfl⟩
      have s4 : Sx [9] h h4' := by rw [e4, ← e3]; exact sx_sI (sx_sI (sx_sI s3 (by rw [rg40]; decide)) (by rw [rg42]; decide)) (by decide)
      have qt := tm_tell q hs c
      rw [← e4] at qt
      have hp4 : gI h4' 27 14 = nI per := by rw [(s4 27 14 (by decide)).1]; exact hp
      obtain ⟨h', f1, f2, f3⟩ := ih (left - 1) (tkTell s c) h4' (nI c) o4 (by show ct (s.pl &&& (ob c ^^^ (-1))) n ≤ f; omega) (by show fr + per = s.t + 1 + (left - 1); omega) (by show fr ≤ s.t + 1; omega) (hm_sx w s4 (by decide)) hp4 qt (ti_tell (by omega) i hc hb)
      refine ⟨h', ?_, sx_trans s4 f2, f3⟩
      have a6 : gI h3 27 23 = nI s.t := qo.2.2.2.2.1
      have a7 : gI h3 27 22 = nI s.hd := qo.2.2.2.2.2.1
      have a6' : gI (sI h3 40 s.t (nI c)) 27 23 = nI s.t := by simp only [gI_sI, gJ_sJ, gI_sJ, gJ_sI, Nat.reduceEqDiff, eq_self, and_true, true_and, and_false, false_and, and_self, if_true, if_false, reduceIte, Nat.succ_ne_zero, a6]
      have a7' : gI (sI h3 40 s.t (nI c)) 27 22 = nI s.hd := by simp only [gI_sI, gJ_sJ, gI_sJ, gJ_sI, Nat.reduceEqDiff, eq_self, and_true, true_and, and_false, false_and, and_self, if_true, if_false, reduceIte, Nat.succ_ne_zero, a7]
      have a6'' : gI (sI (sI h3 40 s.t (nI c)) 42 s.t (nI s.hd)) 27 23 = nI s.t := by simp only [gI_sI, gJ_sJ, gI_sJ, gJ_sI, Nat.reduceEqDiff, eq_self, and_true, true_and, and_false, false_and, and_self, if_true, if_false, reduceIte, Nat.succ_ne_zero, a6]
      rw [← f1]
      simp (disch := omega) only [b105_85, b105_88, b105_98, e10, e01, em10, eq_self, lt0_nI, ge0_nI, cl_nI, le_nI, lt_nI, eq_nI, ne_m1, le40, lt40, gd_nI, nI_1, yle, nle, ylt, nlt, reduceIte, if_true, if_false, and_true, true_and, and_false, false_and, or_true, true_or, or_false, false_or, not_true_eq_false, not_false_eq_true, rI_some, rL_some, rV_some, rA_ref, rA_null, b01, b01', i01, lcmp0, lcmp_lt, lcmp_gt, om1, m1_lt0, h4, Bool.false_eq_true, a6, a6', a7']
      rw [b105_111, a6'', e4, e3]
      simp (disch := omega) only [e10, e01, em10, eq_self, lt0_nI, ge0_nI, cl_nI, le_nI, lt_nI, eq_nI, ne_m1, le40, lt40, gd_nI, nI_1, yle, nle, ylt, nlt, reduceIte, if_true, if_false, and_true, true_and, and_false, false_and, or_true, true_or, or_false, false_or, not_true_eq_false, not_false_eq_true, rI_some, rL_some, rV_some, rA_ref, rA_null, b01, b01', i01, lcmp0, lcmp_lt, lcmp_gt, om1, m1_lt0]
end TM0
/-! one answer -/
def tkAns (P Q : Nat → Int32) (E : Nat → Int64) (g : Int64) (s : Tk) (c : Nat) : Tk := if bt g c = true then (s.pl, s.bn, s.cm ||| E c, s.t, s.hd, s.tc, s.tr) else (s.pl ||| ((par P Q c &&& (s.cm ^^^ (-1))) &&& (s.bn ^^^ (-1))), s.bn ||| ((par P Q c &&& (s.cm ^^^ (-1))) &&& (s.bn ^^^ (-1))), s.cm, s.t, s.hd, s.tc, s.tr)
theorem ans_t (P Q : Nat → Int32) (E : Nat → Int64) (g : Int64) (s : Tk) (c : Nat) : (tkAns P Q E g s c).t = s.t ∧ (tkAns P Q E g s c).hd = s.hd ∧ (tkAns P Q E g s c).tc = s.tc ∧ (tkAns P Q E g s c).tr = s.tr := by
  unfold tkAns; split <;> exact ⟨rfl, rfl, rfl, rfl⟩
theorem ct_join {s t : Int64} {n : Nat} (h : ∀ j, j < n → bt t j = true → bt s j = false) : ct (s ||| t) n = ct s n + ct t n := by
  have h1 := ct_or s t n
  have h2 : ct (s &&& t) n = ct 0 n := ct_congr (fun j hj => by
    rw [bt_and, bt_zero]
    cases hb : bt t j with
    | false => simp
    | true => rw [h j hj hb]; rfl)
  have h3 : ∀ n, ct 0 n = 0 := fun n => by
    induction n with
    | zero => rfl
    | succ n ih => rw [ct, bt_zero]; simpa using ih
  rw [h3] at h2; omega
theorem ct_or_le (s t : Int64) (n : Nat) : ct (s ||| t) n ≤ ct s n + ct t n := by have := ct_or s t n; omega
theorem ti_ans {n : Nat} {P Q K : Nat → Int32} {E : Nat → Int64} (w : WF n P Q K E) (g : Int64) {s : Tk} (i : TI n s) {c : Nat} (hc : c < n) : TI n (tkAns P Q E g s c) := by
  obtain ⟨w1, w2, w3, w4, w5⟩ := i
  have h40 := w.1
  unfold tkAns
  split
  · exact ⟨w1, w2, w3, w4, w5⟩
  · have hs : sub ((par P Q c &&& (s.cm ^^^ (-1))) &&& (s.bn ^^^ (-1))) n := sub_andl (sub_andl (sub_par w hc))
    refine ⟨sub_or w1 hs, sub_or w2 hs, ?_, w4, w5⟩
    show s.t + ct (s.pl ||| ((par P Q c &&& (s.cm ^^^ (-1))) &&& (s.bn ^^^ (-1)))) n ≤ ct (s.bn ||| ((par P Q c &&& (s.cm ^^^ (-1))) &&& (s.bn ^^^ (-1)))) n
    have h1 := ct_or_le s.pl ((par P Q c &&& (s.cm ^^^ (-1))) &&& (s.bn ^^^ (-1))) n
    have h2 := ct_join (s := s.bn) (t := (par P Q c &&& (s.cm ^^^ (-1))) &&& (s.bn ^^^ (-1))) (n := n) (fun j hj hb => by
      rw [bt_and, bt_not _ (by omega)] at hb
      cases hq : bt s.bn j with
      | false => rfl
      | true => rw [hq] at hb; simp at hb)
    omega
def an (P Q : Nat → Int32) (E : Nat → Int64) (g : Int64) : Nat → Nat → Tk → Tk
  | 0, _, s => s
  | k + 1, i, s => an P Q E g k (i + 1) (tkAns P Q E g s (s.tc i).toNatClampNeg)
theorem an_t (P Q : Nat → Int32) (E : Nat → Int64) (g : Int64) : ∀ (k i : Nat) (s : Tk), (an P Q E g k i s).t = s.t ∧ (an P Q E g k i s).hd = s.hd ∧ (an P Q E g k i s).tc = s.tc ∧ (an P Q E g k i s).tr = s.tr
  | 0, _, s => ⟨rfl, rfl, rfl, rfl⟩
  | k + 1, i, s => by
    obtain ⟨a, b, c, d⟩ := an_t P Q E g k (i + 1) (tkAns P Q E g s (s.tc i).toNatClampNeg)
    obtain ⟨a', b', c', d'⟩ := ans_t P Q E g s (s.tc i).toNatClampNeg
    exact ⟨a.trans a', b.trans b', c.trans c', d.trans d'⟩
theorem ti_an {n : Nat} {P Q K : Nat → Int32} {E : Nat → Int64} (w : WF n P Q K E) (g : Int64) : ∀ (k i : Nat) (s : Tk), i + k ≤ s.t → TI n s → TI n (an P Q E g k i s)
  | 0, _, s, _, h => h
  | k + 1, i, s, hk, h => by
    obtain ⟨c, hc, e⟩ := h.2.2.2.2 i (by omega)
    have h40 := w.1
    rw [an, e, cl_nI (by omega)]
    have := (ans_t P Q E g s c).1
    exact ti_an w g k (i + 1) _ (by omega) (ti_ans w g h hc)
