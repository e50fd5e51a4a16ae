/-! The model's bases. -/
section BS
variable {n sl : Nat} {P Q K : Nat → Int32} {E : Nat → Int64}
theorem ifs_f (s t : Int64) : ifs false s t = s := by simp [ifs]
theorem ifs_t (s t : Int64) : ifs true s t = s ||| t := by simp [ifs]
theorem i01_t : i01f true = 1 := by simp [i01f]
theorem i01_f : i01f false = 0 := by simp [i01f]
theorem base_side {h : mH} {c : Nat} (hc : c < 40) {v sd : Int32} (hv : okp v c) (hpar : Rt 73 [.ref 27, .int (nI c), .int sd] h = some (some (.int v), h)) (x1 x2 : Int32) (one two stale ever pile found : Int64) (bth old : Bool) (o4 o6 o8 o10 o12 o14 o17 o21 o22 o23 : Option Value) :
    ∃ q4 q6 q8 q10 q12 q21 q22 q23, Ev 80 145 [some (.ref 27), some (.int x1), some (.int x2), some (.long one), o4, some (.long two), o6, some (.long stale), o8, some (.long ever), o10, some (.long pile), o12, some (.long found), o14, some (.int (nI c)), some (.long (ob c)), o17, some (.int (i01f bth)), some (.int (i01f old)), some (.int sd), o21, o22, o23] [] h = Ev 80 139 [some (.ref 27), some (.int x1), some (.int x2), some (.long (ifs (bt one c) one (pb v))), q4, some (.long (ifs (bt two c) two (pb v))), q6, some (.long (ifs (bth || old) stale (pb v))), q8, some (.long (ever ||| pb v)), q10, some (.long (pile ||| (pb v &&& (ever ^^^ (-1))))), q12, some (.long found), o14, some (.int (nI c)), some (.long (ob c)), o17, some (.int (i01f bth)), some (.int (i01f old)), some (.int (sd + 1)), q21, q22, q23] [] h := by
  have key : ∀ pv : Int64, ∃ q4 q6 q8 q10 q12 q22 q23, Ev 80 169 [some (.ref 27), some (.int x1), some (.int x2), some (.long one), o4, some (.long two), o6, some (.long stale), o8, some (.long ever), o10, some (.long pile), o12, some (.long found), o14, some (.int (nI c)), some (.long (ob c)), o17, some (.int (i01f bth)), some (.int (i01f old)), some (.int sd), some (.int v), o22, o23] [.long pv] h = Ev 80 139 [some (.ref 27), some (.int x1), some (.int x2), some (.long (ifs (bt one c) one pv)), q4, some (.long (ifs (bt two c) two pv)), q6, some (.long (ifs (bth || old) stale pv)), q8, some (.long (ever ||| pv)), q10, some (.long (pile ||| (pv &&& (ever ^^^ (-1))))), q12, some (.long found), o14, some (.int (nI c)), some (.long (ob c)), o17, some (.int (i01f bth)), some (.int (i01f old)), some (.int (sd + 1)), some (.int v), q22, q23] [] h := by
    intro pv
    refine ⟨kil none, kil none, none, none, none, some (.long pv), none, ?_⟩
    simp (disch := omega) only [b80_169, b80_181, b80_186, b80_187, b80_201, b80_206, b80_207, b80_217, b80_222, b80_227, b80_228, e10, e01, em10, eq_self, lt0_nI, ge0_nI, cl_nI, le_nI, lt_nI, eq_nI, ne_m1, le40, lt40, gd_nI, nI_1, yle, nle, ylt, nlt, reduceIte, if_true, if_false, and_true, true_and, and_false, false_and, or_true, true_or, or_false, false_or, not_true_eq_false, not_false_eq_true, rI_some, rL_some, rV_some, rA_ref, rA_null, b01, b01', i01, lcmp0, lcmp_lt, lcmp_gt, om1, m1_lt0, bit_and]
    cases h1 : bt one c <;> cases h2 : bt two c <;> cases bth <;> cases old <;>
      simp only [i01_t, i01_f, ifs_f, ifs_t, e10, e01, em10, eq_self, lt0_nI, ge0_nI, cl_nI, le_nI, lt_nI, eq_nI, ne_m1, le40, lt40, gd_nI, nI_1, yle, nle, ylt, nlt, reduceIte, if_true, if_false, and_true, true_and, and_false, false_and, or_true, true_or, or_false, false_or, not_true_eq_false, not_false_eq_true, rI_some, rL_some, rV_some, rA_ref, rA_null, b01, b01', i01, lcmp0, lcmp_lt, lcmp_gt, om1, m1_lt0, Bool.or_false, Bool.or_true, Bool.false_or, Bool.true_or, Bool.or_self, Int64.or_zero, Bool.true_eq_false]
  rcases hv with rfl | ⟨p, hp, rfl⟩
  · obtain ⟨q4, q6, q8, q10, q12, q22, q23, e⟩ := key 0
    refine ⟨q4, q6, q8, q10, q12, some (.int (-1)), q22, q23, ?_⟩
    rw [pb_m1, ← e]
    simp (disch := omega) only [b80_145, b80_153, b80_161, b80_165, e10, e01, em10, eq_self, lt0_nI, ge0_nI, cl_nI, le_nI, lt_nI, eq_nI, ne_m1, le40, lt40, gd_nI, nI_1, yle, nle, ylt, nlt, reduceIte, if_true, if_false, and_true, true_and, and_false, false_and, or_true, true_or, or_false, false_or, not_true_eq_false, not_false_eq_true, rI_some, rL_some, rV_some, rA_ref, rA_null, b01, b01', i01, lcmp0, lcmp_lt, lcmp_gt, om1, m1_lt0, hpar]
  · obtain ⟨q4, q6, q8, q10, q12, q22, q23, e⟩ := key (ob p)
    refine ⟨q4, q6, q8, q10, q12, some (.int (nI p)), q22, q23, ?_⟩
    rw [pb_nI (by omega), ← e]
    simp (disch := omega) only [b80_145, b80_153, b80_161, b80_165, e10, e01, em10, eq_self, lt0_nI, ge0_nI, cl_nI, le_nI, lt_nI, eq_nI, ne_m1, le40, lt40, gd_nI, nI_1, yle, nle, ylt, nlt, reduceIte, if_true, if_false, and_true, true_and, and_false, false_and, or_true, true_or, or_false, false_or, not_true_eq_false, not_false_eq_true, rI_some, rL_some, rV_some, rA_ref, rA_null, b01, b01', i01, lcmp0, lcmp_lt, lcmp_gt, om1, m1_lt0, hpar, sh_ob']
theorem or_diff (s t : Int64) : s ||| t = s ||| (t &&& (s ^^^ (-1))) := by
  apply bt_ext; intro j hj
  rw [bt_or, bt_or, bt_and, bt_not _ hj]
  cases bt s j <;> cases bt t j <;> rfl
theorem bt_ifs (b : Bool) (s t : Int64) (j : Nat) : bt (ifs b s t) j = (bt s j || (b && bt t j)) := by
  unfold ifs
  cases b <;> simp [bt_or]
theorem ifs2 (b : Bool) (s t u : Int64) : ifs b (ifs b s t) u = ifs b s (t ||| u) := by
  unfold ifs
  cases b <;> simp [Int64.or_assoc]
theorem pile2 (pile ever a b : Int64) : (pile ||| (a &&& (ever ^^^ (-1)))) ||| (b &&& ((ever ||| a) ^^^ (-1))) = pile ||| ((a ||| b) &&& (ever ^^^ (-1))) := by
  apply bt_ext; intro j hj
  rw [bt_or, bt_or, bt_and, bt_not _ hj, bt_and, bt_not _ hj, bt_or, bt_or, bt_and, bt_or, bt_not _ hj]
  cases bt pile j <;> cases bt ever j <;> cases bt a j <;> cases bt b j <;> rfl
theorem bases_loop (x1 x2 : Int32) : ∀ (k cnt : Nat) (one two stale pile ever found : Int64) (h : mH) (o4 o6 o8 o10 o12 o14 o15 o16 o17 o18 o19 o20 o21 o22 o23 : Option Value), HM h n sl P Q K E → sub pile n → mu pile ever n ≤ k → gI h 27 19 = nI cnt →
    ∃ h', Ev 80 30 [some (.ref 27), some (.int x1), some (.int x2), some (.long one), o4, some (.long two), o6, some (.long stale), o8, some (.long ever), o10, some (.long pile), o12, some (.long found), o14, o15, o16, o17, o18, o19, o20, o21, o22, o23] [] h = some (some (.long (ptI n (gen sl K) (par P Q) k one two stale pile ever found cnt).1), h') ∧ Sx [7] h h' ∧ gI h' 27 19 = nI (ptI n (gen sl K) (par P Q) k one two stale pile ever found cnt).2 := by
  intro k
  induction k with
  | zero =>
    intro cnt one two stale pile ever found h o4 o6 o8 o10 o12 o14 o15 o16 o17 o18 o19 o20 o21 o22 o23 w hs hmu hcnt
    have hp : pile = 0 := mu_zero (been := ever) hs (by omega)
    have hz : pile &&& (stale ^^^ (-1)) = 0 := by
      subst hp
      apply bt_ext; intro j hj
      rw [bt_and, bt_zero]; rfl
    refine ⟨h, ?_, sx_refl _ _, hcnt⟩
    simp only [b80_30, b80_261, e10, e01, em10, eq_self, lt0_nI, ge0_nI, cl_nI, le_nI, lt_nI, eq_nI, ne_m1, le40, lt40, gd_nI, nI_1, yle, nle, ylt, nlt, reduceIte, if_true, if_false, and_true, true_and, and_false, false_and, or_true, true_or, or_false, false_or, not_true_eq_false, not_false_eq_true, rI_some, rL_some, rV_some, rA_ref, rA_null, b01, b01', i01, lcmp0, lcmp_lt, lcmp_gt, om1, m1_lt0, hz]
    rfl
  | succ k ih =>
    intro cnt one two stale pile ever found h o4 o6 o8 o10 o12 o14 o15 o16 o17 o18 o19 o20 o21 o22 o23 w hs hmu hcnt
    have h40 := w.2.2.2.2.2.2.1
    unfold ptI
    by_cases hp : pile &&& (stale ^^^ (-1)) = 0
    · rw [if_pos hp]
      refine ⟨h, ?_, sx_refl _ _, hcnt⟩
      simp only [b80_30, b80_261, e10, e01, em10, eq_self, lt0_nI, ge0_nI, cl_nI, le_nI, lt_nI, eq_nI, ne_m1, le40, lt40, gd_nI, nI_1, yle, nle, ylt, nlt, reduceIte, if_true, if_false, and_true, true_and, and_false, false_and, or_true, true_or, or_false, false_or, not_true_eq_false, not_false_eq_true, rI_some, rL_some, rV_some, rA_ref, rA_null, b01, b01', i01, lcmp0, lcmp_lt, lcmp_gt, om1, m1_lt0, hp]
    · rw [if_neg hp]
      obtain ⟨c, hc, ht, hbc⟩ := top_of (g := gen sl K) h40 hs (sub_diff0 hs hp)
      have ec : (tG (gen sl K) pile n).toNatClampNeg = c := by rw [ht, cl_nI (by omega)]
      rw [ec]
      have hps : ∀ j, j < 64 → bt (par P Q c &&& (ever ^^^ (-1))) j = true → bt ever j = false := fun j hj q => by
        rw [bt_and, bt_not _ hj, Bool.and_eq_true] at q
        simpa using q.2
      have hms := mu_step (pile := pile) (been := ever) (by omega : n ≤ 64) hc hbc hps
      rw [← or_diff] at hms
      have hsx : Sx [7] h (sI h 27 19 (nI (cnt + 1))) := sx_sI (sx_refl _ _) (by decide)
      have w2 := hm_sx w hsx (by decide)
      have hwf := w.2.2.2.2.2.2.2 c hc
      have hc40 : c < 40 := by omega
      obtain ⟨p4, p6, p8, p10, p12, p21, p22, p23, ea⟩ := base_side hc40 (sd := 0) hwf.1 (m_parent0 w2 hc) x1 x2 one two stale ever (pile &&& (ob c ^^^ (-1))) (ifs ((bt one c && bt two c) && !bt stale c) found (ob c)) (bt one c && bt two c) (bt stale c) o4 o6 o8 (kil o10) (kil none) none (kil none) o21 o22 o23
      obtain ⟨d4, d6, d8, d10, d12, d21, d22, d23, ed⟩ := base_side hc40 (sd := 1) hwf.2.1 (m_parent1 w2 hc) x1 x2 (ifs (bt one c) one (pb (P c))) (ifs (bt two c) two (pb (P c))) (ifs ((bt one c && bt two c) || bt stale c) stale (pb (P c))) (ever ||| pb (P c)) ((pile &&& (ob c ^^^ (-1))) ||| (pb (P c) &&& (ever ^^^ (-1)))) (ifs ((bt one c && bt two c) && !bt stale c) found (ob c)) (bt one c && bt two c) (bt stale c) p4 p6 p8 p10 p12 none (kil none) p21 p22 p23
      have hpc : bt (pb (P c)) c = false := by
        cases hb : bt (pb (P c)) c with
        | false => rfl
        | true => have := (bt_pb hwf.1 (by omega) c).mp hb; omega
      have e1 : bt (ifs (bt one c) one (pb (P c))) c = bt one c := by rw [bt_ifs, hpc]; simp
      have e2 : bt (ifs (bt two c) two (pb (P c))) c = bt two c := by rw [bt_ifs, hpc]; simp
      rw [e1, e2, ifs2, ifs2, ifs2, pile2, Int64.or_assoc, Bool.or_comm (bt one c && bt two c) (bt stale c)] at ed
      rw [Bool.or_comm (bt one c && bt two c) (bt stale c)] at ea
      obtain ⟨h', e, g1, g2⟩ := ih (cnt + 1) _ _ _ _ _ _ (sI h 27 19 (nI (cnt + 1))) d4 d6 d8 d10 d12 none (some (.int (nI c))) (some (.long (ob c))) (kil none) (some (.int (i01f (bt one c && bt two c)))) (some (.int (i01f (bt stale c)))) (some (.int 2)) d21 d22 d23 w2 (sub_or (sub_andl hs) (sub_andl (sub_par w.2.2.2.2.2.2 hc))) (Nat.le_of_lt_succ (Nat.lt_of_lt_of_le (Nat.lt_of_succ_le hms) hmu)) (gI_same _ _ _ _)
      refine ⟨h', ?_, sx_trans hsx g1, g2⟩
      refine Eq.trans ?_ e
      have tail : Ev 80 139 [some (.ref 27), some (.int x1), some (.int x2), some (.long one), o4, some (.long two), o6, some (.long stale), o8, some (.long ever), kil o10, some (.long (pile &&& (ob c ^^^ (-1)))), kil none, some (.long (ifs ((bt one c && bt two c) && !bt stale c) found (ob c))), none, some (.int (nI c)), some (.long (ob c)), kil none, some (.int (i01f (bt one c && bt two c))), some (.int (i01f (bt stale c))), some (.int 0), o21, o22, o23] [] (sI h 27 19 (nI (cnt + 1))) = Ev 80 30 [some (.ref 27), some (.int x1), some (.int x2), some (.long (ifs (bt one c) one (par P Q c))), d4, some (.long (ifs (bt two c) two (par P Q c))), d6, some (.long (ifs (bt stale c || (bt one c && bt two c)) stale (par P Q c))), d8, some (.long (ever ||| par P Q c)), d10, some (.long ((pile &&& (ob c ^^^ (-1))) ||| (par P Q c &&& (ever ^^^ (-1))))), d12, some (.long (ifs ((bt one c && bt two c) && !bt stale c) found (ob c))), none, some (.int (nI c)), some (.long (ob c)), kil none, some (.int (i01f (bt one c && bt two c))), some (.int (i01f (bt stale c))), some (.int 2), d21, d22, d23] [] (sI h 27 19 (nI (cnt + 1))) := by
        rw [b80_139, if_neg (show ¬ (2 : Int32) ≤ 0 by decide), ea, a01, b80_139, if_neg (show ¬ (2 : Int32) ≤ 1 by decide), ed, a11, b80_139, if_pos (show (2 : Int32) ≤ 2 by decide), b80_258]
        rfl
      rw [← tail, b80_30]
      simp (disch := omega) only [b80_44, b80_50, b80_91, b80_95, b80_96, b80_108, b80_112, b80_113, b80_122, b80_127, b80_132, b80_133, e10, e01, em10, eq_self, lt0_nI, ge0_nI, cl_nI, le_nI, lt_nI, eq_nI, ne_m1, le40, lt40, gd_nI, nI_1, yle, nle, ylt, nlt, reduceIte, if_true, if_false, and_true, true_and, and_false, false_and, or_true, true_or, or_false, false_or, not_true_eq_false, not_false_eq_true, rI_some, rL_some, rV_some, rA_ref, rA_null, b01, b01', i01, lcmp0, lcmp_lt, lcmp_gt, om1, m1_lt0, hp, m_next w, ht, sh_ob', hcnt, bit_and, bt_and]
      cases h1 : bt one c <;> cases h2 : bt two c <;> cases h3 : bt stale c <;>
        simp only [i01_t, i01_f, ifs_f, ifs_t, e10, e01, em10, eq_self, lt0_nI, ge0_nI, cl_nI, le_nI, lt_nI, eq_nI, ne_m1, le40, lt40, gd_nI, nI_1, yle, nle, ylt, nlt, reduceIte, if_true, if_false, and_true, true_and, and_false, false_and, or_true, true_or, or_false, false_or, not_true_eq_false, not_false_eq_true, rI_some, rL_some, rV_some, rA_ref, rA_null, b01, b01', i01, lcmp0, lcmp_lt, lcmp_gt, om1, m1_lt0, Bool.and_true, Bool.and_false, Bool.true_and, Bool.false_and, Bool.not_true, Bool.not_false, Int64.or_zero, Bool.true_eq_false, Bool.and_self]
theorem r_basesOf {h : mH} (w : HM h n sl P Q K E) {a b : Nat} (ha : a < n) (hb : b < n) : ∃ h', Rt 80 [.ref 27, .int (nI a), .int (nI b)] h = some (some (.long (ptA n sl P Q K a b).1), h') ∧ Sx [7] h h' ∧ gI h' 27 19 = nI (ptA n sl P Q K a b).2 := by
  have h40 := w.2.2.2.2.2.2.1
  have hsx : Sx [7] h (sI h 27 19 0) := sx_sI (sx_refl _ _) (by decide)
  have w2 := hm_sx w hsx (by decide)
  obtain ⟨h', e, e1, e2⟩ := bases_loop (nI a) (nI b) 40 0 (ob a) (ob b) 0 (ob a ||| ob b) (ob a ||| ob b) 0 (sI h 27 19 0) none none none none none none none none none none none none none none none w2 (sub_or (sub_ob ha (by omega)) (sub_ob hb (by omega))) (by rw [mu_init (by omega)]; omega) (by rw [gI_same]; rfl)
  refine ⟨h', ?_, sx_trans hsx e1, e2⟩
  show Ev 80 0 [some (.ref 27), some (.int (nI a)), some (.int (nI b)), none, none, none, none, none, none, none, none, none, none, none, none, none, none, none, none, none, none, none, none, none] [] h = _
  refine Eq.trans ?_ e
  rw [b80_0, sh_ob' (by omega), sh_ob' (by omega)]
end BS
