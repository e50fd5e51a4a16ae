/-! Folds in the model. -/
section ML
variable {h : mH} {n sl : Nat}
theorem next_loop (hn : gI h 27 5 = nI n) (hs : gI h 27 10 = nI sl) (h40 : n ≤ 40) (hsl : sl ≤ n) (s : Int64) : ∀ (k c : Nat) (o : Option Value), c + k = n → Ev 76 5 [some (.ref 27), some (.long s), o, some (.int (tG (gen sl (gI h 34)) s c)), some (.int (nI c))] [] h = some (some (.int (tG (gen sl (gI h 34)) s n)), h)
  | 0, c, o, hk => by
    obtain rfl : c = n := by omega
    rw [b76_5, hn]
    simp (disch := omega) only [b76_55, e10, e01, em10, eq_self, lt0_nI, ge0_nI, cl_nI, le_nI, lt_nI, eq_nI, ne_m1, le40, lt40, gd_nI, nI_1, yle, nle, ylt, nlt, reduceIte, if_true, if_false, and_true, true_and, and_false, false_and, or_true, true_or, or_false, false_or, not_true_eq_false, not_false_eq_true, rI_some, rL_some, rV_some, rA_ref, rA_null, b01, b01', i01, lcmp0, lcmp_lt, lcmp_gt, om1, m1_lt0]
  | k + 1, c, o, hk => by
    rw [b76_5, hn]
    simp (disch := omega) only [b76_0, b76_14, b76_20, b76_23, b76_28, b76_34, b76_39, b76_42, b76_47, b76_48, b76_55, e10, e01, em10, eq_self, lt0_nI, ge0_nI, cl_nI, le_nI, lt_nI, eq_nI, ne_m1, le40, lt40, gd_nI, nI_1, yle, nle, ylt, nlt, reduceIte, if_true, if_false, and_true, true_and, and_false, false_and, or_true, true_or, or_false, false_or, not_true_eq_false, not_false_eq_true, rI_some, rL_some, rV_some, rA_ref, rA_null, b01, b01', i01, lcmp0, lcmp_lt, lcmp_gt, om1, m1_lt0, r_mholds (show c < 40 by omega), r_generation hs h40 hsl (show c < n by omega)]
    by_cases hb : bt s c = true
    · simp only [hb, not_true_eq_false, if_false]
      rcases tG_or (gen sl (gI h 34)) s c with h1 | ⟨d, h1, h2, h3⟩
      · simp only [h1, if_true]
        refine Eq.trans ?_ (next_loop hn hs h40 hsl s k (c + 1) ?_ (by omega))
        rw [tG, if_pos ⟨hb, Or.inl h1⟩]
      · simp (disch := omega) only [h2, e10, e01, em10, eq_self, lt0_nI, ge0_nI, cl_nI, le_nI, lt_nI, eq_nI, ne_m1, le40, lt40, gd_nI, nI_1, yle, nle, ylt, nlt, reduceIte, if_true, if_false, and_true, true_and, and_false, false_and, or_true, true_or, or_false, false_or, not_true_eq_false, not_false_eq_true, rI_some, rL_some, rV_some, rA_ref, rA_null, b01, b01', i01, lcmp0, lcmp_lt, lcmp_gt, om1, m1_lt0, r_generation hs h40 hsl (show d < n by omega)]
        by_cases hg : gen sl (gI h 34) c < gen sl (gI h 34) d
        · simp only [hg, if_true]
          refine Eq.trans ?_ (next_loop hn hs h40 hsl s k (c + 1) ?_ (by omega))
          rw [tG, if_neg, h2]
          rw [h2, ne_m1 (by omega), cl_nI (by omega)]
          rintro ⟨-, q | q⟩
          · exact q
          · exact absurd hg (Int32.not_lt.mpr q)
        · simp only [hg, if_false]
          refine Eq.trans ?_ (next_loop hn hs h40 hsl s k (c + 1) ?_ (by omega))
          rw [tG, if_pos]
          refine ⟨hb, Or.inr ?_⟩
          rw [h2, cl_nI (by omega)]
          exact Int32.not_lt.mp hg
    · simp only [hb, Bool.false_eq_true, not_false_eq_true, if_true, if_false]
      refine Eq.trans ?_ (next_loop hn hs h40 hsl s k (c + 1) ?_ (by omega))
      rw [tG, if_neg (fun q => hb q.1)]
theorem r_next (hn : gI h 27 5 = nI n) (hs : gI h 27 10 = nI sl) (h40 : n ≤ 40) (hsl : sl ≤ n) (s : Int64) : Rt 76 [.ref 27, .long s] h = some (some (.int (tG (gen sl (gI h 34)) s n)), h) := by
  show Ev 76 0 [some (.ref 27), some (.long s), none, none, none] [] h = _
  rw [b76_0]
  exact next_loop hn hs h40 hsl s n 0 _ (by omega)
theorem nextTold_loop (hn : gI h 27 5 = nI n) (h40 : n ≤ 40) : ∀ (k c : Nat), c + k = n → Ev 102 4 [some (.ref 27), some (.int (tG (gI h 34) (gJ h 27 29) c)), some (.int (nI c))] [] h = Ev 102 55 [some (.ref 27), some (.int (tG (gI h 34) (gJ h 27 29) n)), some (.int (nI n))] [] h
  | 0, c, hk => by
    obtain rfl : c = n := by omega
    rw [b102_4, hn]
    simp (disch := omega) only [e10, e01, em10, eq_self, lt0_nI, ge0_nI, cl_nI, le_nI, lt_nI, eq_nI, ne_m1, le40, lt40, gd_nI, nI_1, yle, nle, ylt, nlt, reduceIte, if_true, if_false, and_true, true_and, and_false, false_and, or_true, true_or, or_false, false_or, not_true_eq_false, not_false_eq_true, rI_some, rL_some, rV_some, rA_ref, rA_null, b01, b01', i01, lcmp0, lcmp_lt, lcmp_gt, om1, m1_lt0]
  | k + 1, c, hk => by
    rw [b102_4, hn]
    simp (disch := omega) only [b102_0, b102_12, b102_20, b102_23, b102_28, b102_34, b102_40, b102_43, b102_47, b102_48, b102_65, b102_72, b102_79, e10, e01, em10, eq_self, lt0_nI, ge0_nI, cl_nI, le_nI, lt_nI, eq_nI, ne_m1, le40, lt40, gd_nI, nI_1, yle, nle, ylt, nlt, reduceIte, if_true, if_false, and_true, true_and, and_false, false_and, or_true, true_or, or_false, false_or, not_true_eq_false, not_false_eq_true, rI_some, rL_some, rV_some, rA_ref, rA_null, b01, b01', i01, lcmp0, lcmp_lt, lcmp_gt, om1, m1_lt0, r_mholds (show c < 40 by omega)]
    by_cases hb : bt (gJ h 27 29) c = true
    · simp only [hb, not_true_eq_false, if_false]
      rcases tG_or (gI h 34) (gJ h 27 29) c with h1 | ⟨d, h1, h2, h3⟩
      · simp only [h1, if_true]
        refine Eq.trans ?_ (nextTold_loop hn h40 k (c + 1) (by omega))
        rw [show tG (gI h 34) (gJ h 27 29) (c + 1) = nI c by rw [tG, if_pos ⟨hb, Or.inl h1⟩]]
      · simp (disch := omega) only [h2, e10, e01, em10, eq_self, lt0_nI, ge0_nI, cl_nI, le_nI, lt_nI, eq_nI, ne_m1, le40, lt40, gd_nI, nI_1, yle, nle, ylt, nlt, reduceIte, if_true, if_false, and_true, true_and, and_false, false_and, or_true, true_or, or_false, false_or, not_true_eq_false, not_false_eq_true, rI_some, rL_some, rV_some, rA_ref, rA_null, b01, b01', i01, lcmp0, lcmp_lt, lcmp_gt, om1, m1_lt0]
        by_cases hg : gI h 34 c < gI h 34 d
        · simp only [hg, if_true]
          refine Eq.trans ?_ (nextTold_loop hn h40 k (c + 1) (by omega))
          rw [show tG (gI h 34) (gJ h 27 29) (c + 1) = nI d from ?_]
          rw [tG, if_neg, h2]
          rw [h2, ne_m1 (by omega), cl_nI (by omega)]
          rintro ⟨-, q | q⟩
          · exact q
          · exact absurd hg (Int32.not_lt.mpr q)
        · simp only [hg, if_false]
          refine Eq.trans ?_ (nextTold_loop hn h40 k (c + 1) (by omega))
          rw [show tG (gI h 34) (gJ h 27 29) (c + 1) = nI c from ?_]
          rw [tG, if_pos]
          refine ⟨hb, Or.inr ?_⟩
          rw [h2, cl_nI (by omega)]
          exact Int32.not_lt.mp hg
    · simp only [hb, Bool.false_eq_true, not_false_eq_true, if_true, if_false]
      refine Eq.trans ?_ (nextTold_loop hn h40 k (c + 1) (by omega))
      rw [show tG (gI h 34) (gJ h 27 29) (c + 1) = tG (gI h 34) (gJ h 27 29) c by rw [tG, if_neg (fun q => hb q.1)]]
theorem r_nextTold (hn : gI h 27 5 = nI n) (h40 : n ≤ 40) : Rt 102 [.ref 27] h = some (some (.int (tG (gI h 34) (gJ h 27 29) n)), if tG (gI h 34) (gJ h 27 29) n = -1 then sJ h 27 29 (gJ h 27 29 &&& gJ h 27 29) else sJ h 27 29 (gJ h 27 29 &&& (ob (tG (gI h 34) (gJ h 27 29) n).toNatClampNeg ^^^ (-1)))) := by
  show Ev 102 0 [some (.ref 27), none, none] [] h = _
  rw [b102_0]
  refine Eq.trans (nextTold_loop hn h40 n 0 (by omega)) ?_
  simp only [b102_55, b102_65, b102_72, b102_79]
  rcases tG_or (gI h 34) (gJ h 27 29) n with h1 | ⟨d, h1, h2, h3⟩
  · simp [h1]
  · simp (disch := omega) only [h2, e10, e01, em10, eq_self, lt0_nI, ge0_nI, cl_nI, le_nI, lt_nI, eq_nI, ne_m1, le40, lt40, gd_nI, nI_1, yle, nle, ylt, nlt, reduceIte, if_true, if_false, and_true, true_and, and_false, false_and, or_true, true_or, or_false, false_or, not_true_eq_false, not_false_eq_true, rI_some, rL_some, rV_some, rA_ref, rA_null, b01, b01', i01, lcmp0, lcmp_lt, lcmp_gt, om1, m1_lt0, sh_ob']
theorem reachAll_loop {K : Nat → Int32} {E : Nat → Int64} (w : WF n (gI h 32) (gI h 33) K E) (hn : gI h 27 5 = nI n) (s : Int64) : ∀ (k c : Nat) (o o2 : Option Value), c + k = n → Ev 100 5 [some (.ref 27), some (.long s), o, some (.long (orE E s c)), o2, some (.int (nI c))] [] h = some (some (.long (orE E s n)), h)
  | 0, c, o, o2, hk => by
    have h40 := w.1
    obtain rfl : c = n := by omega
    rw [b100_5, hn]
    simp (disch := omega) only [b100_42, e10, e01, em10, eq_self, lt0_nI, ge0_nI, cl_nI, le_nI, lt_nI, eq_nI, ne_m1, le40, lt40, gd_nI, nI_1, yle, nle, ylt, nlt, reduceIte, if_true, if_false, and_true, true_and, and_false, false_and, or_true, true_or, or_false, false_or, not_true_eq_false, not_false_eq_true, rI_some, rL_some, rV_some, rA_ref, rA_null, b01, b01', i01, lcmp0, lcmp_lt, lcmp_gt, om1, m1_lt0]
  | k + 1, c, o, o2, hk => by
    have h40 := w.1
    rw [b100_5, hn]
    simp (disch := omega) only [b100_0, b100_14, b100_21, b100_24, b100_30, b100_33, b100_34, b100_42, e10, e01, em10, eq_self, lt0_nI, ge0_nI, cl_nI, le_nI, lt_nI, eq_nI, ne_m1, le40, lt40, gd_nI, nI_1, yle, nle, ylt, nlt, reduceIte, if_true, if_false, and_true, true_and, and_false, false_and, or_true, true_or, or_false, false_or, not_true_eq_false, not_false_eq_true, rI_some, rL_some, rV_some, rA_ref, rA_null, b01, b01', i01, lcmp0, lcmp_lt, lcmp_gt, om1, m1_lt0, r_mholds (show c < 40 by omega), r_mreachOf w (show c < n by omega)]
    by_cases hb : bt s c = true
    · simp only [hb, not_true_eq_false, if_false]
      refine Eq.trans ?_ (reachAll_loop w hn s k (c + 1) ?_ ?_ (by omega))
      rw [orE, if_pos hb]
    · simp only [hb, Bool.false_eq_true, not_false_eq_true, if_true, if_false, Int64.or_zero]
      refine Eq.trans ?_ (reachAll_loop w hn s k (c + 1) ?_ ?_ (by omega))
      rw [orE, if_neg hb]
theorem r_reachAll {K : Nat → Int32} {E : Nat → Int64} (w : WF n (gI h 32) (gI h 33) K E) (hn : gI h 27 5 = nI n) (s : Int64) : Rt 100 [.ref 27, .long s] h = some (some (.long (orE E s n)), h) := by
  show Ev 100 0 [some (.ref 27), some (.long s), none, none, none, none] [] h = _
  rw [b100_0]
  exact reachAll_loop w hn s n 0 _ _ (by omega)
theorem heads_loop {K : Nat → Int32} {E : Nat → Int64} (w : WF n (gI h 32) (gI h 33) K E) (hn : gI h 27 5 = nI n) : ∀ (k c : Nat) (o : Option Value), c + k = n → Ev 101 4 [some (.ref 27), some (.long (blw E (gJ h 27 16) c)), o, some (.int (nI c))] [] h = some (some (.long (gJ h 27 16 &&& (blw E (gJ h 27 16) n ^^^ (-1)))), h)
  | 0, c, o, hk => by
    have h40 := w.1
    obtain rfl : c = n := by omega
    rw [b101_4, hn]
    simp (disch := omega) only [b101_49, e10, e01, em10, eq_self, lt0_nI, ge0_nI, cl_nI, le_nI, lt_nI, eq_nI, ne_m1, le40, lt40, gd_nI, nI_1, yle, nle, ylt, nlt, reduceIte, if_true, if_false, and_true, true_and, and_false, false_and, or_true, true_or, or_false, false_or, not_true_eq_false, not_false_eq_true, rI_some, rL_some, rV_some, rA_ref, rA_null, b01, b01', i01, lcmp0, lcmp_lt, lcmp_gt, om1, m1_lt0]
  | k + 1, c, o, hk => by
    have h40 := w.1
    rw [b101_4, hn]
    simp (disch := omega) only [b101_0, b101_12, b101_21, b101_24, b101_29, b101_40, b101_41, b101_49, e10, e01, em10, eq_self, lt0_nI, ge0_nI, cl_nI, le_nI, lt_nI, eq_nI, ne_m1, le40, lt40, gd_nI, nI_1, yle, nle, ylt, nlt, reduceIte, if_true, if_false, and_true, true_and, and_false, false_and, or_true, true_or, or_false, false_or, not_true_eq_false, not_false_eq_true, rI_some, rL_some, rV_some, rA_ref, rA_null, b01, b01', i01, lcmp0, lcmp_lt, lcmp_gt, om1, m1_lt0, r_mholds (show c < 40 by omega), r_mreachOf w (show c < n by omega), sh_ob']
    by_cases hb : bt (gJ h 27 16) c = true
    · simp only [hb, not_true_eq_false, if_false]
      refine Eq.trans ?_ (heads_loop w hn k (c + 1) ?_ (by omega))
      rw [blw, if_pos hb]
    · simp only [hb, Bool.false_eq_true, not_false_eq_true, if_true, if_false, Int64.or_zero]
      refine Eq.trans ?_ (heads_loop w hn k (c + 1) ?_ (by omega))
      rw [blw, if_neg hb]
theorem r_heads {K : Nat → Int32} {E : Nat → Int64} (w : WF n (gI h 32) (gI h 33) K E) (hn : gI h 27 5 = nI n) : Rt 101 [.ref 27] h = some (some (.long (gJ h 27 16 &&& (blw E (gJ h 27 16) n ^^^ (-1)))), h) := by
  show Ev 101 0 [some (.ref 27), none, none, none] [] h = _
  rw [b101_0]
  exact heads_loop w hn n 0 _ (by omega)
/-- children -/
def chd (P Q : Nat → Int32) (c : Nat) : Nat → Nat
  | 0 => 0
  | d + 1 => chd P Q c d + (if P d = nI c ∨ Q d = nI c then 1 else 0)
theorem chd_le (P Q : Nat → Int32) (c : Nat) : ∀ d, chd P Q c d ≤ d
  | 0 => Nat.le_refl 0
  | d + 1 => by
    have := chd_le P Q c d
    unfold chd
    split <;> omega
theorem chd_low {P Q : Nat → Int32} {c : Nat} (hc : c < 40) : ∀ d, d ≤ c + 1 → (∀ e, e < d → okp (P e) e ∧ okp (Q e) e) → chd P Q c d = 0
  | 0, _, _ => rfl
  | d + 1, hd, ho => by
    unfold chd
    rw [chd_low hc d (by omega) (fun e he => ho e (by omega)), if_neg]
    rintro (q | q)
    · rcases (ho d (by omega)).1 with h1 | ⟨p, h1, h2⟩
      · rw [q, ne_m1 (by omega)] at h1; exact h1
      · rw [q, eq_nI (by omega) (by omega)] at h2; omega
    · rcases (ho d (by omega)).2 with h1 | ⟨p, h1, h2⟩
      · rw [q, ne_m1 (by omega)] at h1; exact h1
      · rw [q, eq_nI (by omega) (by omega)] at h2; omega
theorem children_loop (hn : gI h 27 5 = nI n) (h40 : n ≤ 40) (c : Nat) : ∀ (k d : Nat), d + k = n → Ev 70 4 [some (.ref 27), some (.int (nI c)), some (.int (nI (chd (gI h 32) (gI h 33) c d))), some (.int (nI d))] [] h = some (some (.int (nI (chd (gI h 32) (gI h 33) c n))), h)
  | 0, d, hk => by
    obtain rfl : d = n := by omega
    rw [b70_4, hn]
    simp (disch := omega) only [b70_46, e10, e01, em10, eq_self, lt0_nI, ge0_nI, cl_nI, le_nI, lt_nI, eq_nI, ne_m1, le40, lt40, gd_nI, nI_1, yle, nle, ylt, nlt, reduceIte, if_true, if_false, and_true, true_and, and_false, false_and, or_true, true_or, or_false, false_or, not_true_eq_false, not_false_eq_true, rI_some, rL_some, rV_some, rA_ref, rA_null, b01, b01', i01, lcmp0, lcmp_lt, lcmp_gt, om1, m1_lt0]
  | k + 1, d, hk => by
    rw [b70_4, hn]
    simp (disch := omega) only [b70_0, b70_12, b70_19, b70_23, b70_29, b70_33, b70_37, b70_38, b70_46, e10, e01, em10, eq_self, lt0_nI, ge0_nI, cl_nI, le_nI, lt_nI, eq_nI, ne_m1, le40, lt40, gd_nI, nI_1, yle, nle, ylt, nlt, reduceIte, if_true, if_false, and_true, true_and, and_false, false_and, or_true, true_or, or_false, false_or, not_true_eq_false, not_false_eq_true, rI_some, rL_some, rV_some, rA_ref, rA_null, b01, b01', i01, lcmp0, lcmp_lt, lcmp_gt, om1, m1_lt0]
    by_cases h1 : gI h 32 d = nI c
    · simp only [h1, if_true]
      refine Eq.trans ?_ (children_loop hn h40 c k (d + 1) (by omega))
      rw [show chd (gI h 32) (gI h 33) c (d + 1) = chd (gI h 32) (gI h 33) c d + 1 by rw [chd, if_pos (Or.inl h1)]]
    · by_cases h2 : gI h 33 d = nI c
      · simp only [h1, h2, not_true_eq_false, if_true, if_false]
        refine Eq.trans ?_ (children_loop hn h40 c k (d + 1) (by omega))
        rw [show chd (gI h 32) (gI h 33) c (d + 1) = chd (gI h 32) (gI h 33) c d + 1 by rw [chd, if_pos (Or.inr h2)]]
      · simp only [h1, h2, not_false_eq_true, if_true, if_false, Int32.add_zero]
        refine Eq.trans ?_ (children_loop hn h40 c k (d + 1) (by omega))
        rw [show chd (gI h 32) (gI h 33) c (d + 1) = chd (gI h 32) (gI h 33) c d by rw [chd, if_neg (by rintro (q | q); exact h1 q; exact h2 q), Nat.add_zero]]
theorem r_children (hn : gI h 27 5 = nI n) (h40 : n ≤ 40) (c : Nat) : Rt 70 [.ref 27, .int (nI c)] h = some (some (.int (nI (chd (gI h 32) (gI h 33) c n))), h) := by
  show Ev 70 0 [some (.ref 27), some (.int (nI c)), none, none] [] h = _
  rw [b70_0]
  exact children_loop hn h40 c n 0 (by omega)
theorem childrenOf_loop (hn : gI h 1 6 = nI n) (h40 : n ≤ 40) (ho : ∀ e, e < n → okp (gI h 2 e) e ∧ okp (gI h 3 e) e) {c : Nat} (hc : c < n) : ∀ (k d : Nat), c < d → d + k = n → Ev 136 6 [some (.ref 1), some (.int (nI c)), some (.int (nI (chd (gI h 2) (gI h 3) c d))), some (.int (nI d))] [] h = some (some (.int (nI (chd (gI h 2) (gI h 3) c n))), h)
  | 0, d, hcd, hk => by
    obtain rfl : d = n := by omega
    rw [b136_6, hn]
    simp (disch := omega) only [b136_35, e10, e01, em10, eq_self, lt0_nI, ge0_nI, cl_nI, le_nI, lt_nI, eq_nI, ne_m1, le40, lt40, gd_nI, nI_1, yle, nle, ylt, nlt, reduceIte, if_true, if_false, and_true, true_and, and_false, false_and, or_true, true_or, or_false, false_or, not_true_eq_false, not_false_eq_true, rI_some, rL_some, rV_some, rA_ref, rA_null, b01, b01', i01, lcmp0, lcmp_lt, lcmp_gt, om1, m1_lt0]
  | k + 1, d, hcd, hk => by
    rw [b136_6, hn]
    have hd : d < n := by omega
    simp (disch := omega) only [b136_0, b136_14, b136_19, b136_23, b136_26, b136_29, b136_35, e10, e01, em10, eq_self, lt0_nI, ge0_nI, cl_nI, le_nI, lt_nI, eq_nI, ne_m1, le40, lt40, gd_nI, nI_1, yle, nle, ylt, nlt, reduceIte, if_true, if_false, and_true, true_and, and_false, false_and, or_true, true_or, or_false, false_or, not_true_eq_false, not_false_eq_true, rI_some, rL_some, rV_some, rA_ref, rA_null, b01, b01', i01, lcmp0, lcmp_lt, lcmp_gt, om1, m1_lt0, r_parentsOf hn h40 hd (ho d hd).1 (ho d hd).2, r_isIn (show c < 40 by omega)]
    have e : bt (pb (gI h 2 d) ||| pb (gI h 3 d)) c = true ↔ (gI h 2 d = nI c ∨ gI h 3 d = nI c) := by
      rw [bt_or, Bool.or_eq_true, bt_pb (ho d hd).1 (by omega), bt_pb (ho d hd).2 (by omega)]
      simp [hcd]
    by_cases hb : bt (pb (gI h 2 d) ||| pb (gI h 3 d)) c = true
    · simp only [hb, not_true_eq_false, if_false]
      refine Eq.trans ?_ (childrenOf_loop hn h40 ho hc k (d + 1) (by omega) (by omega))
      rw [show chd (gI h 2) (gI h 3) c (d + 1) = chd (gI h 2) (gI h 3) c d + 1 by rw [chd, if_pos (e.mp hb)]]
    · simp only [hb, Bool.false_eq_true, not_false_eq_true, if_true, if_false]
      refine Eq.trans ?_ (childrenOf_loop hn h40 ho hc k (d + 1) (by omega) (by omega))
      rw [show chd (gI h 2) (gI h 3) c (d + 1) = chd (gI h 2) (gI h 3) c d by rw [chd, if_neg (fun q => hb (e.mpr q)), Nat.add_zero]]
theorem r_childrenOf (hn : gI h 1 6 = nI n) (h40 : n ≤ 40) (ho : ∀ e, e < n → okp (gI h 2 e) e ∧ okp (gI h 3 e) e) {c : Nat} (hc : c < n) : Rt 136 [.ref 1, .int (nI c)] h = some (some (.int (nI (chd (gI h 2) (gI h 3) c n))), h) := by
  show Ev 136 0 [some (.ref 1), some (.int (nI c)), none, none] [] h = _
  rw [b136_0, nI_1]
  have := childrenOf_loop hn h40 ho hc (n - (c + 1)) (c + 1) (by omega) (by omega)
  rw [chd_low (by omega) (c + 1) (by omega) (fun e he => ho e (by omega))] at this
  exact this
end ML
