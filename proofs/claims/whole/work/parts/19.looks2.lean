/-! LOOKING in the model: the loop. -/
theorem lkI_met (n : Nat) (g : Nat → Int32) (pr : Nat → Int64) (al : Int64) (a : Nat) (k : Nat) (pile been : Int64) (cnt : Nat) (ord : Nat → Nat) : lkI n g pr al a k pile been cnt true ord = (cnt, true, ord) := by
  cases k with
  | zero => rfl
  | succ k => unfold lkI; rw [if_pos (Or.inr rfl)]
theorem lkI_zero (n : Nat) (g : Nat → Int32) (pr : Nat → Int64) (al : Int64) (a : Nat) (k : Nat) (been : Int64) (cnt : Nat) (met : Bool) (ord : Nat → Nat) : lkI n g pr al a k 0 been cnt met ord = (cnt, met, ord) := by
  cases k with
  | zero => rfl
  | succ k => unfold lkI; rw [if_pos (Or.inl rfl)]
section LKN
variable {n sl : Nat} {P Q K : Nat → Int32} {E : Nat → Int64}
theorem looks_loop {a : Nat} (ha : a < n) (b lst : Int32) {al : Int64} (hal : ∀ j, j < n → (bt al j = true ↔ lst ≤ gen sl K j)) : ∀ (k cnt : Nat) (pile been : Int64) (ord : Nat → Nat) (h : mH) (o5 o7 o10 o11 o12 o13 : Option Value), HM h n sl P Q K E → sub pile n → mu pile been n ≤ k → cnt + mu pile been n ≤ 40 → (∀ j, j < cnt → gI h 37 j = nI (ord j)) →
    ∃ h', Ev 77 28 [some (.ref 27), some (.int (nI a)), some (.int b), some (.int lst), some (.long been), o5, some (.long pile), o7, some (.int (nI cnt)), some (.int 0), o10, o11, o12, o13] [] h = some (some (.int (nI (lkI n (gen sl K) (par P Q) al a k pile been cnt false ord).1)), h') ∧ Sx [6] h h' ∧ ∀ j, j < (lkI n (gen sl K) (par P Q) al a k pile been cnt false ord).1 → gI h' 37 j = nI ((lkI n (gen sl K) (par P Q) al a k pile been cnt false ord).2.2 j) := by
  intro k
  induction k with
  | zero =>
    intro cnt pile been ord h o5 o7 o10 o11 o12 o13 w hs hmu hcnt h3
    have hp : pile = 0 := mu_zero (been := been) hs (by omega)
    refine ⟨h, ?_, sx_refl _ _, h3⟩
    subst hp
    simp only [b77_28, b77_188, e10, e01, em10, eq_self, lt0_nI, ge0_nI, cl_nI, le_nI, lt_nI, eq_nI, ne_m1, le40, lt40, gd_nI, nI_1, yle, nle, ylt, nlt, reduceIte, if_true, if_false, and_true, true_and, and_false, false_and, or_true, true_or, or_false, false_or, not_true_eq_false, not_false_eq_true, rI_some, rL_some, rV_some, rA_ref, rA_null, b01, b01', i01, lcmp0, lcmp_lt, lcmp_gt, om1, m1_lt0]
    rfl
  | succ k ih =>
    intro cnt pile been ord h o5 o7 o10 o11 o12 o13 w hs hmu hcnt h3
    have h40 := w.2.2.2.2.2.2.1
    by_cases hp : pile = 0
    · subst hp
      rw [lkI_zero]
      refine ⟨h, ?_, sx_refl _ _, h3⟩
      simp only [b77_28, b77_188, e10, e01, em10, eq_self, lt0_nI, ge0_nI, cl_nI, le_nI, lt_nI, eq_nI, ne_m1, le40, lt40, gd_nI, nI_1, yle, nle, ylt, nlt, reduceIte, if_true, if_false, and_true, true_and, and_false, false_and, or_true, true_or, or_false, false_or, not_true_eq_false, not_false_eq_true, rI_some, rL_some, rV_some, rA_ref, rA_null, b01, b01', i01, lcmp0, lcmp_lt, lcmp_gt, om1, m1_lt0]
    · obtain ⟨c, hc, ht, hbc⟩ := top_of (g := gen sl K) h40 hs hp
      have ec : (tG (gen sl K) pile n).toNatClampNeg = c := by rw [ht, cl_nI (by omega)]
      have hps : ∀ j, j < 64 → bt ((par P Q c &&& al) &&& (been ^^^ (-1))) j = true → bt been j = false := fun j hj q => by
        rw [bt_and, bt_not _ hj, Bool.and_eq_true] at q
        simpa using q.2
      have hms := mu_step (pile := pile) (been := been) (by omega : n ≤ 64) hc hbc hps
      unfold lkI
      rw [if_neg (by rintro (q | q); exact hp q; cases q), ec]
      have hsx : Sx [6] h (sI h 37 cnt (nI c)) := sx_sI (sx_refl _ _) (by rw [rg37]; exact List.mem_singleton.mpr rfl)
      have w2 := hm_sx w hsx (by decide)
      have h3' : ∀ j, j < cnt + 1 → gI (sI h 37 cnt (nI c)) 37 j = nI (if j = cnt then c else ord j) := fun j hj => by
        by_cases hjc : j = cnt
        · subst hjc; rw [gI_same, if_pos rfl]
        · rw [gI_else (by omega), if_neg hjc]; exact h3 j (by omega)
      have hcl : cnt < 40 := by omega
      by_cases hca : c = a
      · subst hca
        rw [show decide (c = c) = true from by simp, lkI_met]
        refine ⟨_, ?_, hsx, h3'⟩
        rw [b77_28]
        simp (disch := omega) only [b77_35, b77_40, b77_46, b77_70, b77_79, b77_83, b77_84, b77_95, b77_185, e10, e01, em10, eq_self, lt0_nI, ge0_nI, cl_nI, le_nI, lt_nI, eq_nI, ne_m1, le40, lt40, gd_nI, nI_1, yle, nle, ylt, nlt, reduceIte, if_true, if_false, and_true, true_and, and_false, false_and, or_true, true_or, or_false, false_or, not_true_eq_false, not_false_eq_true, rI_some, rL_some, rV_some, rA_ref, rA_null, b01, b01', i01, lcmp0, lcmp_lt, lcmp_gt, om1, m1_lt0, hp, m_next w, ht]
        rw [b77_89, if_neg (show ¬ (2 : Int32) ≤ 0 by decide)]
        simp only [b77_95, b77_185, e10, e01, em10, eq_self, lt0_nI, ge0_nI, cl_nI, le_nI, lt_nI, eq_nI, ne_m1, le40, lt40, gd_nI, nI_1, yle, nle, ylt, nlt, reduceIte, if_true, if_false, and_true, true_and, and_false, false_and, or_true, true_or, or_false, false_or, not_true_eq_false, not_false_eq_true, rI_some, rL_some, rV_some, rA_ref, rA_null, b01, b01', i01, lcmp0, lcmp_lt, lcmp_gt, om1, m1_lt0]
        rw [b77_28]
        simp only [b77_35, b77_188, e10, e01, em10, eq_self, lt0_nI, ge0_nI, cl_nI, le_nI, lt_nI, eq_nI, ne_m1, le40, lt40, gd_nI, nI_1, yle, nle, ylt, nlt, reduceIte, if_true, if_false, and_true, true_and, and_false, false_and, or_true, true_or, or_false, false_or, not_true_eq_false, not_false_eq_true, rI_some, rL_some, rV_some, rA_ref, rA_null, b01, b01', i01, lcmp0, lcmp_lt, lcmp_gt, om1, m1_lt0]
        split <;> rfl
      · rw [show decide (c = a) = false from by simp [hca]]
        have hturn : ∃ q5 q7 q10 q11 q12 q13, Ev 77 28 [some (.ref 27), some (.int (nI a)), some (.int b), some (.int lst), some (.long been), o5, some (.long pile), o7, some (.int (nI cnt)), some (.int 0), o10, o11, o12, o13] [] h = Ev 77 28 [some (.ref 27), some (.int (nI a)), some (.int b), some (.int lst), some (.long (been ||| ((par P Q c &&& al) &&& (been ^^^ (-1))))), q5, some (.long ((pile &&& (ob c ^^^ (-1))) ||| ((par P Q c &&& al) &&& (been ^^^ (-1))))), q7, some (.int (nI (cnt + 1))), some (.int 0), q10, q11, q12, q13] [] (sI h 37 cnt (nI c)) := by
          have hwf := w.2.2.2.2.2.2.2 c hc
          obtain ⟨a5, a7, a12, a13, ea⟩ := looks_side w2 hc (sd := 0) hwf.1 (m_parent0 w2 hc) (nI a) b lst been (pile &&& (ob c ^^^ (-1))) (nI (cnt + 1)) (kil o5) (kil none) o12 o13
          obtain ⟨d5, d7, d12, d13, ed⟩ := looks_side w2 hc (sd := 1) hwf.2.1 (m_parent1 w2 hc) (nI a) b lst (been ||| f1 (gen sl K) lst (P c) been) ((pile &&& (ob c ^^^ (-1))) ||| f1 (gen sl K) lst (P c) been) (nI (cnt + 1)) a5 a7 a12 a13
          refine ⟨d5, d7, some (.int (nI c)), some (.int 2), d12, d13, ?_⟩
          rw [b77_28]
          simp (disch := omega) only [b77_35, b77_40, b77_46, b77_70, b77_79, b77_83, b77_84, e10, e01, em10, eq_self, lt0_nI, ge0_nI, cl_nI, le_nI, lt_nI, eq_nI, ne_m1, le40, lt40, gd_nI, nI_1, yle, nle, ylt, nlt, reduceIte, if_true, if_false, and_true, true_and, and_false, false_and, or_true, true_or, or_false, false_or, not_true_eq_false, not_false_eq_true, rI_some, rL_some, rV_some, rA_ref, rA_null, b01, b01', i01, lcmp0, lcmp_lt, lcmp_gt, om1, m1_lt0, hp, m_next w, ht, hca, sh_ob']
          rw [b77_89, if_neg (show ¬ (2 : Int32) ≤ 0 by decide), ea, a01, b77_89, if_neg (show ¬ (2 : Int32) ≤ 1 by decide), ed, a11, b77_89, if_pos (show (2 : Int32) ≤ 2 by decide), b77_185, ← f1_ps w.2.2.2.2.2.2 hc hal been]
          rw [Int64.or_assoc, Int64.or_assoc]
        obtain ⟨q5, q7, q10, q11, q12, q13, et⟩ := hturn
        obtain ⟨h', e, e1, e2⟩ := ih (cnt + 1) _ _ (fun j => if j = cnt then c else ord j) (sI h 37 cnt (nI c)) q5 q7 q10 q11 q12 q13 w2 (sub_or (sub_andl hs) (sub_andl (sub_andl (sub_par w.2.2.2.2.2.2 hc)))) (Nat.le_of_lt_succ (Nat.lt_of_lt_of_le (Nat.lt_of_succ_le hms) hmu)) (by omega) h3'
        exact ⟨h', et.trans e, sx_trans hsx e1, e2⟩
theorem ob_al {b : Nat} (hb : b < 40) (al : Int64) : ob b &&& al = if bt al b = true then ob b else 0 := by
  apply bt_ext
  intro j hj
  rw [bt_and, bt_ob (by omega)]
  by_cases hjb : j = b
  · subst hjb
    cases h : bt al j <;> simp [bt_ob (show j < 64 by omega), bt_zero]
  · cases h : bt al b <;> simp [hjb, bt_ob (show b < 64 by omega), bt_zero]
theorem r_looks {h : mH} (w : HM h n sl P Q K E) {a b : Nat} (ha : a < n) (hb : b < n) {lst : Int32} {al : Int64} (hal : ∀ j, j < n → (bt al j = true ↔ lst ≤ gen sl K j)) : ∃ h', Rt 77 [.ref 27, .int (nI a), .int (nI b), .int lst] h = some (some (.int (nI (lkA n sl P Q K al a b).1)), h') ∧ Sx [6] h h' ∧ ∀ j, j < (lkA n sl P Q K al a b).1 → gI h' 37 j = nI ((lkA n sl P Q K al a b).2.2 j) := by
  have h40 := w.2.2.2.2.2.2.1
  have hmu : mu (ob b &&& al) (ob b &&& al) n = n := mu_init (by omega)
  obtain ⟨h', e, e1, e2⟩ := looks_loop ha (nI b) lst hal 40 0 (ob b &&& al) (ob b &&& al) (fun _ => 0) h none none none none none none w (sub_andl (sub_ob hb (by omega))) (by omega) (by omega) (fun j hj => by omega)
  refine ⟨h', ?_, e1, e2⟩
  show Ev 77 0 [some (.ref 27), some (.int (nI a)), some (.int (nI b)), some (.int lst), none, none, none, none, none, none, none, none, none, none] [] h = _
  refine Eq.trans ?_ e
  rw [ob_al (by omega)]
  by_cases hg : gen sl K b < lst
  · rw [if_neg (fun q => absurd hg (Int32.not_lt.mpr ((hal b hb).mp q)))]
    simp (disch := omega) only [b77_0, b77_5, b77_9, b77_15, b77_16, e10, e01, em10, eq_self, lt0_nI, ge0_nI, cl_nI, le_nI, lt_nI, eq_nI, ne_m1, le40, lt40, gd_nI, nI_1, yle, nle, ylt, nlt, reduceIte, if_true, if_false, and_true, true_and, and_false, false_and, or_true, true_or, or_false, false_or, not_true_eq_false, not_false_eq_true, rI_some, rL_some, rV_some, rA_ref, rA_null, b01, b01', i01, lcmp0, lcmp_lt, lcmp_gt, om1, m1_lt0, m_gen w hb, hg]
    rfl
  · rw [if_pos ((hal b hb).mpr (Int32.not_lt.mp hg))]
    simp (disch := omega) only [b77_0, b77_5, b77_9, b77_15, b77_16, e10, e01, em10, eq_self, lt0_nI, ge0_nI, cl_nI, le_nI, lt_nI, eq_nI, ne_m1, le40, lt40, gd_nI, nI_1, yle, nle, ylt, nlt, reduceIte, if_true, if_false, and_true, true_and, and_false, false_and, or_true, true_or, or_false, false_or, not_true_eq_false, not_false_eq_true, rI_some, rL_some, rV_some, rA_ref, rA_null, b01, b01', i01, lcmp0, lcmp_lt, lcmp_gt, om1, m1_lt0, m_gen w hb, hg, sh_ob']
    rfl
end LKN
