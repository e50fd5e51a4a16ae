/-! Folds over the commits, in the class and in the model. -/
def tG (g : Nat → Int32) (s : Int64) : Nat → Int32
  | 0 => -1
  | c + 1 => if bt s c = true ∧ (tG g s c = -1 ∨ g (tG g s c).toNatClampNeg ≤ g c) then nI c else tG g s c
theorem tG_or (g : Nat → Int32) (s : Int64) : ∀ n, tG g s n = -1 ∨ ∃ d, d < n ∧ tG g s n = nI d ∧ bt s d = true
  | 0 => Or.inl rfl
  | n + 1 => by
    unfold tG
    split
    · rename_i hc; exact Or.inr ⟨n, by omega, rfl, hc.1⟩
    · rcases tG_or g s n with h | ⟨d, h1, h2, h3⟩
      · exact Or.inl h
      · exact Or.inr ⟨d, by omega, h2, h3⟩
theorem tG_some (g : Nat → Int32) (s : Int64) : ∀ {n d : Nat}, n ≤ 40 → d < n → bt s d = true → ∃ e, e < n ∧ tG g s n = nI e ∧ bt s e = true
  | 0, d, _, h, _ => by omega
  | n + 1, d, hn, h, hb => by
    rcases tG_or g s (n + 1) with h1 | h1
    · exfalso
      unfold tG at h1
      split at h1
      · rw [ne_m1 (by omega)] at h1; exact h1
      · rename_i hc
        by_cases hd : d = n
        · subst hd; exact hc ⟨hb, Or.inl h1⟩
        · obtain ⟨e, he, h2, -⟩ := tG_some g s (n := n) (d := d) (by omega) (by omega) hb
          rw [h2, ne_m1 (by omega)] at h1; exact h1
    · exact h1
theorem tG_empty {g : Nat → Int32} : ∀ n, tG g 0 n = -1
  | 0 => rfl
  | n + 1 => by unfold tG; rw [bt_zero, tG_empty n]; simp
theorem tG_congr {g g' : Nat → Int32} {s : Int64} : ∀ {n : Nat}, n ≤ 40 → (∀ c, c < n → g c = g' c) → tG g s n = tG g' s n
  | 0, _, _ => rfl
  | n + 1, hn, h => by
    unfold tG
    rw [← tG_congr (n := n) (by omega) (fun c hc => h c (by omega)), h n (by omega)]
    rcases tG_or g s n with h1 | ⟨d, h1, h2, h3⟩
    · rw [h1]; simp
    · rw [h2, cl_nI (by omega), h d (by omega)]
def orE (E : Nat → Int64) (s : Int64) : Nat → Int64
  | 0 => 0
  | c + 1 => if bt s c = true then orE E s c ||| E c else orE E s c
def blw (E : Nat → Int64) (s : Int64) : Nat → Int64
  | 0 => 0
  | c + 1 => if bt s c = true then blw E s c ||| (E c &&& (ob c ^^^ (-1))) else blw E s c
def orI (T : Nat → Int32) (s : Int64) : Nat → Int32
  | 0 => 0
  | c + 1 => if bt s c = true then orI T s c ||| T c else orI T s c
def frm (g : Nat → Int32) (a : Int32) : Nat → Int64
  | 0 => 0
  | c + 1 => if a ≤ g c then frm g a c ||| ob c else frm g a c
theorem bt_frm (g : Nat → Int32) (a : Int32) : ∀ {n : Nat} (d : Nat), n ≤ 40 → (bt (frm g a n) d = true ↔ d < n ∧ a ≤ g d)
  | 0, d, _ => by simp [frm, bt_zero]
  | n + 1, d, hn => by
    have ih := bt_frm g a (n := n) d (by omega)
    unfold frm
    by_cases hc : a ≤ g n
    · rw [if_pos hc, bt_or, bt_ob (by omega)]
      by_cases hd : d = n
      · subst hd; simp [hc]
      · simp only [hd, decide_false, Bool.or_false, ih]
        exact ⟨fun q => ⟨by omega, q.2⟩, fun q => ⟨by omega, q.2⟩⟩
    · rw [if_neg hc, ih]
      by_cases hd : d = n
      · subst hd; simp [hc]
      · exact ⟨fun q => ⟨by omega, q.2⟩, fun q => ⟨by omega, q.2⟩⟩
section CL
variable {h : mH} {n sl : Nat} (hn : gI h 1 6 = nI n) (hs : gI h 1 7 = nI sl) (h40 : n ≤ 40) (hsl : sl ≤ n)
theorem topG_loop (hn : gI h 1 6 = nI n) (hs : gI h 1 7 = nI sl) (h40 : n ≤ 40) (hsl : sl ≤ n) (s : Int64) : ∀ (k c : Nat) (o : Option Value), c + k = n → Ev 144 5 [some (.ref 1), some (.long s), o, some (.int (tG (gen sl (gI h 5)) s c)), some (.int (nI c))] [] h = some (some (.int (tG (gen sl (gI h 5)) s n)), h)
  | 0, c, o, hk => by
    obtain rfl : c = n := by omega
    rw [b144_5, hn]
    simp (disch := omega) only [b144_51, e10, e01, em10, eq_self, lt0_nI, ge0_nI, cl_nI, le_nI, lt_nI, eq_nI, ne_m1, le40, lt40, gd_nI, nI_1, yle, nle, ylt, nlt, reduceIte, if_true, if_false, and_true, true_and, and_false, false_and, or_true, true_or, or_false, false_or, not_true_eq_false, not_false_eq_true, rI_some, rL_some, rV_some, rA_ref, rA_null, b01, b01', i01, lcmp0, lcmp_lt, lcmp_gt, om1, m1_lt0]
  | k + 1, c, o, hk => by
    rw [b144_5, hn]
    simp (disch := omega) only [b144_0, b144_14, b144_20, b144_23, b144_28, b144_34, b144_39, b144_42, b144_45, b144_51, e10, e01, em10, eq_self, lt0_nI, ge0_nI, cl_nI, le_nI, lt_nI, eq_nI, ne_m1, le40, lt40, gd_nI, nI_1, yle, nle, ylt, nlt, reduceIte, if_true, if_false, and_true, true_and, and_false, false_and, or_true, true_or, or_false, false_or, not_true_eq_false, not_false_eq_true, rI_some, rL_some, rV_some, rA_ref, rA_null, b01, b01', i01, lcmp0, lcmp_lt, lcmp_gt, om1, m1_lt0, r_isIn (show c < 40 by omega), r_generationOf hn hs h40 hsl (show c < n by omega)]
    by_cases hb : bt s c = true
    · simp only [hb, not_true_eq_false, if_false]
      rcases tG_or (gen sl (gI h 5)) s c with h1 | ⟨d, h1, h2, h3⟩
      · simp only [h1, if_true]
        refine Eq.trans ?_ (topG_loop hn hs h40 hsl s k (c + 1) ?_ (by omega))
        rw [tG, if_pos ⟨hb, Or.inl h1⟩]
      · simp (disch := omega) only [h2, e10, e01, em10, eq_self, lt0_nI, ge0_nI, cl_nI, le_nI, lt_nI, eq_nI, ne_m1, le40, lt40, gd_nI, nI_1, yle, nle, ylt, nlt, reduceIte, if_true, if_false, and_true, true_and, and_false, false_and, or_true, true_or, or_false, false_or, not_true_eq_false, not_false_eq_true, rI_some, rL_some, rV_some, rA_ref, rA_null, b01, b01', i01, lcmp0, lcmp_lt, lcmp_gt, om1, m1_lt0, r_generationOf hn hs h40 hsl (show d < n by omega)]
        by_cases hg : gen sl (gI h 5) c < gen sl (gI h 5) d
        · simp only [hg, if_true]
          refine Eq.trans ?_ (topG_loop hn hs h40 hsl s k (c + 1) ?_ (by omega))
          rw [tG, if_neg, h2]
          rw [h2, ne_m1 (by omega), cl_nI (by omega)]
          rintro ⟨-, q | q⟩
          · exact q
          · exact absurd hg (Int32.not_lt.mpr q)
        · simp only [hg, if_false]
          refine Eq.trans ?_ (topG_loop hn hs h40 hsl s k (c + 1) ?_ (by omega))
          rw [tG, if_pos]
          refine ⟨hb, Or.inr ?_⟩
          rw [h2, cl_nI (by omega)]
          exact Int32.not_lt.mp hg
    · simp only [hb, Bool.false_eq_true, not_false_eq_true, if_true, if_false]
      refine Eq.trans ?_ (topG_loop hn hs h40 hsl s k (c + 1) ?_ (by omega))
      rw [tG, if_neg (fun q => hb q.1)]
theorem r_topG (hn : gI h 1 6 = nI n) (hs : gI h 1 7 = nI sl) (h40 : n ≤ 40) (hsl : sl ≤ n) (s : Int64) : Rt 144 [.ref 1, .long s] h = some (some (.int (tG (gen sl (gI h 5)) s n)), h) := by
  show Ev 144 0 [some (.ref 1), some (.long s), none, none, none] [] h = _
  rw [b144_0]
  exact topG_loop hn hs h40 hsl s n 0 _ (by omega)
theorem topK_loop (hn : gI h 1 6 = nI n) (h40 : n ≤ 40) (hK : ∀ c, c < n → 0 ≤ gI h 5 c) (s : Int64) : ∀ (k c : Nat) (o : Option Value), c + k = n → Ev 145 5 [some (.ref 1), some (.long s), o, some (.int (tG (gI h 5) s c)), some (.int (nI c))] [] h = some (some (.int (tG (gI h 5) s n)), h)
  | 0, c, o, hk => by
    obtain rfl : c = n := by omega
    rw [b145_5, hn]
    simp (disch := omega) only [b145_46, e10, e01, em10, eq_self, lt0_nI, ge0_nI, cl_nI, le_nI, lt_nI, eq_nI, ne_m1, le40, lt40, gd_nI, nI_1, yle, nle, ylt, nlt, reduceIte, if_true, if_false, and_true, true_and, and_false, false_and, or_true, true_or, or_false, false_or, not_true_eq_false, not_false_eq_true, rI_some, rL_some, rV_some, rA_ref, rA_null, b01, b01', i01, lcmp0, lcmp_lt, lcmp_gt, om1, m1_lt0]
  | k + 1, c, o, hk => by
    rw [b145_5, hn]
    simp (disch := omega) only [b145_0, b145_14, b145_20, b145_23, b145_29, b145_34, b145_37, b145_40, b145_46, e10, e01, em10, eq_self, lt0_nI, ge0_nI, cl_nI, le_nI, lt_nI, eq_nI, ne_m1, le40, lt40, gd_nI, nI_1, yle, nle, ylt, nlt, reduceIte, if_true, if_false, and_true, true_and, and_false, false_and, or_true, true_or, or_false, false_or, not_true_eq_false, not_false_eq_true, rI_some, rL_some, rV_some, rA_ref, rA_null, b01, b01', i01, lcmp0, lcmp_lt, lcmp_gt, om1, m1_lt0, r_isIn (show c < 40 by omega), r_rankOf hn h40 (show c < n by omega)]
    by_cases hb : bt s c = true
    · simp only [hb, not_true_eq_false, if_false]
      rcases tG_or (gI h 5) s c with h1 | ⟨d, h1, h2, h3⟩
      · simp only [h1, r_rankOf_no, rI_some, Int32.not_lt.mpr (hK c (by omega)), if_false]
        refine Eq.trans ?_ (topK_loop hn h40 hK s k (c + 1) ?_ (by omega))
        rw [tG, if_pos ⟨hb, Or.inl h1⟩]
      · simp (disch := omega) only [h2, e10, e01, em10, eq_self, lt0_nI, ge0_nI, cl_nI, le_nI, lt_nI, eq_nI, ne_m1, le40, lt40, gd_nI, nI_1, yle, nle, ylt, nlt, reduceIte, if_true, if_false, and_true, true_and, and_false, false_and, or_true, true_or, or_false, false_or, not_true_eq_false, not_false_eq_true, rI_some, rL_some, rV_some, rA_ref, rA_null, b01, b01', i01, lcmp0, lcmp_lt, lcmp_gt, om1, m1_lt0, r_rankOf hn h40 (show d < n by omega)]
        by_cases hg : gI h 5 c < gI h 5 d
        · simp only [hg, if_true]
          refine Eq.trans ?_ (topK_loop hn h40 hK s k (c + 1) ?_ (by omega))
          rw [tG, if_neg, h2]
          rw [h2, ne_m1 (by omega), cl_nI (by omega)]
          rintro ⟨-, q | q⟩
          · exact q
          · exact absurd hg (Int32.not_lt.mpr q)
        · simp only [hg, if_false]
          refine Eq.trans ?_ (topK_loop hn h40 hK s k (c + 1) ?_ (by omega))
          rw [tG, if_pos]
          refine ⟨hb, Or.inr ?_⟩
          rw [h2, cl_nI (by omega)]
          exact Int32.not_lt.mp hg
    · simp only [hb, Bool.false_eq_true, not_false_eq_true, if_true, if_false]
      refine Eq.trans ?_ (topK_loop hn h40 hK s k (c + 1) ?_ (by omega))
      rw [tG, if_neg (fun q => hb q.1)]
theorem r_topK (hn : gI h 1 6 = nI n) (h40 : n ≤ 40) (hK : ∀ c, c < n → 0 ≤ gI h 5 c) (s : Int64) : Rt 145 [.ref 1, .long s] h = some (some (.int (tG (gI h 5) s n)), h) := by
  show Ev 145 0 [some (.ref 1), some (.long s), none, none, none] [] h = _
  rw [b145_0]
  exact topK_loop hn h40 hK s n 0 _ (by omega)
theorem frm_loop (hn : gI h 1 6 = nI n) (hs : gI h 1 7 = nI sl) (h40 : n ≤ 40) (hsl : sl ≤ n) (a : Int32) : ∀ (k c : Nat) (o : Option Value), c + k = n → Ev 143 5 [some (.ref 1), some (.int a), some (.long (frm (gen sl (gI h 5)) a c)), o, some (.int (nI c))] [] h = some (some (.long (frm (gen sl (gI h 5)) a n)), h)
  | 0, c, o, hk => by
    obtain rfl : c = n := by omega
    rw [b143_5, hn]
    simp (disch := omega) only [b143_38, e10, e01, em10, eq_self, lt0_nI, ge0_nI, cl_nI, le_nI, lt_nI, eq_nI, ne_m1, le40, lt40, gd_nI, nI_1, yle, nle, ylt, nlt, reduceIte, if_true, if_false, and_true, true_and, and_false, false_and, or_true, true_or, or_false, false_or, not_true_eq_false, not_false_eq_true, rI_some, rL_some, rV_some, rA_ref, rA_null, b01, b01', i01, lcmp0, lcmp_lt, lcmp_gt, om1, m1_lt0]
  | k + 1, c, o, hk => by
    rw [b143_5, hn]
    simp (disch := omega) only [b143_0, b143_14, b143_20, b143_24, b143_30, b143_32, b143_38, e10, e01, em10, eq_self, lt0_nI, ge0_nI, cl_nI, le_nI, lt_nI, eq_nI, ne_m1, le40, lt40, gd_nI, nI_1, yle, nle, ylt, nlt, reduceIte, if_true, if_false, and_true, true_and, and_false, false_and, or_true, true_or, or_false, false_or, not_true_eq_false, not_false_eq_true, rI_some, rL_some, rV_some, rA_ref, rA_null, b01, b01', i01, lcmp0, lcmp_lt, lcmp_gt, om1, m1_lt0, r_bit (show c < 40 by omega), r_generationOf hn hs h40 hsl (show c < n by omega)]
    by_cases hb : gen sl (gI h 5) c < a
    · simp only [hb, if_true]
      refine Eq.trans ?_ (frm_loop hn hs h40 hsl a k (c + 1) ?_ (by omega))
      rw [frm, if_neg (Int32.not_le.mpr hb)]
    · simp only [hb, if_false]
      refine Eq.trans ?_ (frm_loop hn hs h40 hsl a k (c + 1) ?_ (by omega))
      rw [frm, if_pos (Int32.not_lt.mp hb)]
theorem r_frm (hn : gI h 1 6 = nI n) (hs : gI h 1 7 = nI sl) (h40 : n ≤ 40) (hsl : sl ≤ n) (a : Int32) : Rt 143 [.ref 1, .int a] h = some (some (.long (frm (gen sl (gI h 5)) a n)), h) := by
  show Ev 143 0 [some (.ref 1), some (.int a), none, none, none] [] h = _
  rw [b143_0]
  exact frm_loop hn hs h40 hsl a n 0 _ (by omega)
theorem orE_loop (hn : gI h 1 6 = nI n) (h40 : n ≤ 40) (s : Int64) : ∀ (k c : Nat) (o o2 : Option Value), c + k = n → Ev 140 5 [some (.ref 1), some (.long s), o, some (.long (orE (gJ h 6) s c)), o2, some (.int (nI c))] [] h = some (some (.long (orE (gJ h 6) s n)), h)
  | 0, c, o, o2, hk => by
    obtain rfl : c = n := by omega
    rw [b140_5, hn]
    simp (disch := omega) only [b140_39, e10, e01, em10, eq_self, lt0_nI, ge0_nI, cl_nI, le_nI, lt_nI, eq_nI, ne_m1, le40, lt40, gd_nI, nI_1, yle, nle, ylt, nlt, reduceIte, if_true, if_false, and_true, true_and, and_false, false_and, or_true, true_or, or_false, false_or, not_true_eq_false, not_false_eq_true, rI_some, rL_some, rV_some, rA_ref, rA_null, b01, b01', i01, lcmp0, lcmp_lt, lcmp_gt, om1, m1_lt0]
  | k + 1, c, o, o2, hk => by
    rw [b140_5, hn]
    simp (disch := omega) only [b140_0, b140_14, b140_20, b140_23, b140_31, b140_33, b140_39, e10, e01, em10, eq_self, lt0_nI, ge0_nI, cl_nI, le_nI, lt_nI, eq_nI, ne_m1, le40, lt40, gd_nI, nI_1, yle, nle, ylt, nlt, reduceIte, if_true, if_false, and_true, true_and, and_false, false_and, or_true, true_or, or_false, false_or, not_true_eq_false, not_false_eq_true, rI_some, rL_some, rV_some, rA_ref, rA_null, b01, b01', i01, lcmp0, lcmp_lt, lcmp_gt, om1, m1_lt0, r_isIn (show c < 40 by omega)]
    by_cases hb : bt s c = true
    · simp only [hb, not_true_eq_false, if_false]
      refine Eq.trans ?_ (orE_loop hn h40 s k (c + 1) ?_ ?_ (by omega))
      rw [orE, if_pos hb]
    · simp only [hb, Bool.false_eq_true, not_false_eq_true, if_true, if_false]
      refine Eq.trans ?_ (orE_loop hn h40 s k (c + 1) ?_ ?_ (by omega))
      rw [orE, if_neg hb]
theorem r_reachOfAll (hn : gI h 1 6 = nI n) (h40 : n ≤ 40) (s : Int64) : Rt 140 [.ref 1, .long s] h = some (some (.long (orE (gJ h 6) s n)), h) := by
  show Ev 140 0 [some (.ref 1), some (.long s), none, none, none, none] [] h = _
  rw [b140_0]
  exact orE_loop hn h40 s n 0 _ _ (by omega)
theorem tips_loop (hn : gI h 1 6 = nI n) (h40 : n ≤ 40) (s : Int64) : ∀ (k c : Nat) (o o2 : Option Value), c + k = n → Ev 141 5 [some (.ref 1), some (.long s), o, some (.long (blw (gJ h 6) s c)), o2, some (.int (nI c))] [] h = some (some (.long (s &&& (blw (gJ h 6) s n ^^^ (-1)))), h)
  | 0, c, o, o2, hk => by
    obtain rfl : c = n := by omega
    rw [b141_5, hn]
    simp (disch := omega) only [b141_49, e10, e01, em10, eq_self, lt0_nI, ge0_nI, cl_nI, le_nI, lt_nI, eq_nI, ne_m1, le40, lt40, gd_nI, nI_1, yle, nle, ylt, nlt, reduceIte, if_true, if_false, and_true, true_and, and_false, false_and, or_true, true_or, or_false, false_or, not_true_eq_false, not_false_eq_true, rI_some, rL_some, rV_some, rA_ref, rA_null, b01, b01', i01, lcmp0, lcmp_lt, lcmp_gt, om1, m1_lt0]
  | k + 1, c, o, o2, hk => by
    rw [b141_5, hn]
    simp (disch := omega) only [b141_0, b141_14, b141_20, b141_23, b141_31, b141_36, b141_43, b141_49, e10, e01, em10, eq_self, lt0_nI, ge0_nI, cl_nI, le_nI, lt_nI, eq_nI, ne_m1, le40, lt40, gd_nI, nI_1, yle, nle, ylt, nlt, reduceIte, if_true, if_false, and_true, true_and, and_false, false_and, or_true, true_or, or_false, false_or, not_true_eq_false, not_false_eq_true, rI_some, rL_some, rV_some, rA_ref, rA_null, b01, b01', i01, lcmp0, lcmp_lt, lcmp_gt, om1, m1_lt0, r_isIn (show c < 40 by omega), r_bit (show c < 40 by omega)]
    by_cases hb : bt s c = true
    · simp only [hb, not_true_eq_false, if_false]
      refine Eq.trans ?_ (tips_loop hn h40 s k (c + 1) ?_ ?_ (by omega))
      rw [blw, if_pos hb]
    · simp only [hb, Bool.false_eq_true, not_false_eq_true, if_true, if_false]
      refine Eq.trans ?_ (tips_loop hn h40 s k (c + 1) ?_ ?_ (by omega))
      rw [blw, if_neg hb]
theorem r_tipsOf (hn : gI h 1 6 = nI n) (h40 : n ≤ 40) (s : Int64) : Rt 141 [.ref 1, .long s] h = some (some (.long (s &&& (blw (gJ h 6) s n ^^^ (-1)))), h) := by
  show Ev 141 0 [some (.ref 1), some (.long s), none, none, none, none] [] h = _
  rw [b141_0]
  exact tips_loop hn h40 s n 0 _ _ (by omega)
theorem thingsOf_loop (hn : gI h 1 6 = nI n) (h40 : n ≤ 40) (s : Int64) : ∀ (k c : Nat) (o : Option Value), c + k = n → Ev 142 5 [some (.ref 1), some (.long s), o, some (.int (orI (gI h 4) s c)), some (.int (nI c))] [] h = some (some (.int (orI (gI h 4) s n)), h)
  | 0, c, o, hk => by
    obtain rfl : c = n := by omega
    rw [b142_5, hn]
    simp (disch := omega) only [b142_39, e10, e01, em10, eq_self, lt0_nI, ge0_nI, cl_nI, le_nI, lt_nI, eq_nI, ne_m1, le40, lt40, gd_nI, nI_1, yle, nle, ylt, nlt, reduceIte, if_true, if_false, and_true, true_and, and_false, false_and, or_true, true_or, or_false, false_or, not_true_eq_false, not_false_eq_true, rI_some, rL_some, rV_some, rA_ref, rA_null, b01, b01', i01, lcmp0, lcmp_lt, lcmp_gt, om1, m1_lt0]
  | k + 1, c, o, hk => by
    rw [b142_5, hn]
    simp (disch := omega) only [b142_0, b142_14, b142_20, b142_23, b142_31, b142_33, b142_39, e10, e01, em10, eq_self, lt0_nI, ge0_nI, cl_nI, le_nI, lt_nI, eq_nI, ne_m1, le40, lt40, gd_nI, nI_1, yle, nle, ylt, nlt, reduceIte, if_true, if_false, and_true, true_and, and_false, false_and, or_true, true_or, or_false, false_or, not_true_eq_false, not_false_eq_true, rI_some, rL_some, rV_some, rA_ref, rA_null, b01, b01', i01, lcmp0, lcmp_lt, lcmp_gt, om1, m1_lt0, r_isIn (show c < 40 by omega)]
    by_cases hb : bt s c = true
    · simp only [hb, not_true_eq_false, if_false]
      refine Eq.trans ?_ (thingsOf_loop hn h40 s k (c + 1) ?_ (by omega))
      rw [orI, if_pos hb]
    · simp only [hb, Bool.false_eq_true, not_false_eq_true, if_true, if_false]
      refine Eq.trans ?_ (thingsOf_loop hn h40 s k (c + 1) ?_ (by omega))
      rw [orI, if_neg hb]
theorem r_thingsOf (hn : gI h 1 6 = nI n) (h40 : n ≤ 40) (s : Int64) : Rt 142 [.ref 1, .long s] h = some (some (.int (orI (gI h 4) s n)), h) := by
  show Ev 142 0 [some (.ref 1), some (.long s), none, none, none] [] h = _
  rw [b142_0]
  exact thingsOf_loop hn h40 s n 0 _ (by omega)
end CL
