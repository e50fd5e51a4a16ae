/-! LOOKING: one function, and that class and model both compute it. -/
def lkI (n : Nat) (g : Nat → Int32) (pr : Nat → Int64) (al : Int64) (a : Nat) : Nat → Int64 → Int64 → Nat → Bool → (Nat → Nat) → Nat × Bool × (Nat → Nat)
  | 0, _, _, cnt, met, ord => (cnt, met, ord)
  | k + 1, pile, been, cnt, met, ord => if pile = 0 ∨ met = true then (cnt, met, ord) else
      lkI n g pr al a k ((pile &&& (ob (tG g pile n).toNatClampNeg ^^^ (-1))) ||| ((pr (tG g pile n).toNatClampNeg &&& al) &&& (been ^^^ (-1)))) (been ||| ((pr (tG g pile n).toNatClampNeg &&& al) &&& (been ^^^ (-1)))) (cnt + 1) (decide ((tG g pile n).toNatClampNeg = a)) (fun j => if j = cnt then (tG g pile n).toNatClampNeg else ord j)
section LK
variable {n sl : Nat} {P Q K : Nat → Int32} {E : Nat → Int64}
def i01f (b : Bool) : Int32 := if b = true then 1 else 0
theorem search_loop {a : Nat} (ha : a < n) (b pl : Int32) (al : Int64) : ∀ (k cnt : Nat) (pile been : Int64) (met : Bool) (ord : Nat → Nat) (h : mH) (o6 o8 o10 o12 o13 o14 : Option Value), cnt + k = 40 → HC h n sl P Q K E → sub pile n → gI h 8 1 = nI cnt → gI h 8 2 = i01f met → (∀ j, j < cnt → gI h 9 j = nI (ord j)) →
    ∃ h', Ev 151 48 [some (.ref 8), some (.ref 1), some (.int (nI a)), some (.int b), some (.int pl), some (.long al), o6, some (.long pile), o8, some (.long been), o10, some (.int (nI cnt)), o12, o13, o14] [] h = some (none, h') ∧ Sx [1] h h' ∧ gI h' 8 1 = nI (lkI n (gen sl K) (par P Q) al a k pile been cnt met ord).1 ∧ gI h' 8 2 = i01f (lkI n (gen sl K) (par P Q) al a k pile been cnt met ord).2.1 ∧ ∀ j, j < (lkI n (gen sl K) (par P Q) al a k pile been cnt met ord).1 → gI h' 9 j = nI ((lkI n (gen sl K) (par P Q) al a k pile been cnt met ord).2.2 j)
  | 0, cnt, pile, been, met, ord, h, o6, o8, o10, o12, o13, o14, hk, w, hs, h1, h2, h3 => by
    obtain rfl : cnt = 40 := by omega
    refine ⟨h, ?_, sx_refl _ _, h1, h2, h3⟩
    rw [b151_48]
    simp (disch := omega) only [b151_157, e10, e01, em10, eq_self, lt0_nI, ge0_nI, cl_nI, le_nI, lt_nI, eq_nI, ne_m1, le40, lt40, gd_nI, nI_1, yle, nle, ylt, nlt, reduceIte, if_true, if_false, and_true, true_and, and_false, false_and, or_true, true_or, or_false, false_or, not_true_eq_false, not_false_eq_true, rI_some, rL_some, rV_some, rA_ref, rA_null, b01, b01', i01, lcmp0, lcmp_lt, lcmp_gt, om1, m1_lt0]
  | k + 1, cnt, pile, been, met, ord, h, o6, o8, o10, o12, o13, o14, hk, w, hs, h1, h2, h3 => by
    have h40 := w.2.2.2.2.2.2.2.1
    by_cases hp : pile = 0
    · refine ⟨h, ?_, sx_refl _ _, ?_, ?_, ?_⟩
      · rw [b151_48]
        simp (disch := omega) only [b151_55, b151_157, e10, e01, em10, eq_self, lt0_nI, ge0_nI, cl_nI, le_nI, lt_nI, eq_nI, ne_m1, le40, lt40, gd_nI, nI_1, yle, nle, ylt, nlt, reduceIte, if_true, if_false, and_true, true_and, and_false, false_and, or_true, true_or, or_false, false_or, not_true_eq_false, not_false_eq_true, rI_some, rL_some, rV_some, rA_ref, rA_null, b01, b01', i01, lcmp0, lcmp_lt, lcmp_gt, om1, m1_lt0, hp]
      · unfold lkI; rw [if_pos (Or.inl hp)]; exact h1
      · unfold lkI; rw [if_pos (Or.inl hp)]; exact h2
      · unfold lkI; rw [if_pos (Or.inl hp)]; exact h3
    · cases met with
      | true =>
        refine ⟨h, ?_, sx_refl _ _, ?_, ?_, ?_⟩
        · rw [b151_48]
          simp (disch := omega) only [b151_55, b151_62, b151_157, e10, e01, em10, eq_self, lt0_nI, ge0_nI, cl_nI, le_nI, lt_nI, eq_nI, ne_m1, le40, lt40, gd_nI, nI_1, yle, nle, ylt, nlt, reduceIte, if_true, if_false, and_true, true_and, and_false, false_and, or_true, true_or, or_false, false_or, not_true_eq_false, not_false_eq_true, rI_some, rL_some, rV_some, rA_ref, rA_null, b01, b01', i01, lcmp0, lcmp_lt, lcmp_gt, om1, m1_lt0, hp, h2, i01f]
        · unfold lkI; rw [if_pos (Or.inr rfl)]; exact h1
        · unfold lkI; rw [if_pos (Or.inr rfl)]; exact h2
        · unfold lkI; rw [if_pos (Or.inr rfl)]; exact h3
      | false =>
        obtain ⟨c, hc, ht, hbc⟩ := top_of (g := gen sl K) h40 hs hp
        have ec : (tG (gen sl K) pile n).toNatClampNeg = c := by rw [ht, cl_nI (by omega)]
        unfold lkI
        rw [if_neg (by rintro (q | q); exact hp q; cases q), ec]
        obtain ⟨mv, hmv⟩ : ∃ mv : Int32, mv = i01f (decide (c = a)) := ⟨_, rfl⟩
        have hsx : Sx [1] h (sI (sI (sI h 9 cnt (nI c)) 8 1 (nI (cnt + 1))) 8 2 mv) := sx_sI (sx_sI (sx_sI (sx_refl _ _) (by rw [rg9]; exact List.mem_singleton.mpr rfl)) (by rw [rg8]; exact List.mem_singleton.mpr rfl)) (by rw [rg8]; exact List.mem_singleton.mpr rfl)
        have w2 := hc_sx w hsx (by decide)
        obtain ⟨h', e, e1, e2, e3, e4⟩ := search_loop ha b pl al k (cnt + 1) ((pile &&& (ob c ^^^ (-1))) ||| ((par P Q c &&& al) &&& (been ^^^ (-1)))) (been ||| ((par P Q c &&& al) &&& (been ^^^ (-1)))) (decide (c = a)) (fun j => if j = cnt then c else ord j) _ (kil o6) none none (some (.int (nI c))) (some (.long ((par P Q c &&& al) &&& (been ^^^ (-1))))) none (by omega) w2 (sub_or (sub_andl hs) (sub_andl (sub_andl (sub_par w.2.2.2.2.2.2.2 hc))))
          (by rw [gI_else (by decide), gI_same]) (by rw [gI_same]; exact hmv) (fun j hj => by
            rw [gI_else (by omega), gI_else (by omega)]
            by_cases hjc : j = cnt
            · subst hjc; rw [gI_same, if_pos rfl]
            · rw [gI_else (by omega), if_neg hjc]; exact h3 j (by omega))
        refine ⟨h', ?_, sx_trans hsx e1, e2, e3, e4⟩
        rw [← e, b151_48]
        have w1 := hc_sx w (R := [1]) (sx_sI (k := 9) (j := cnt) (x := nI c) (sx_refl _ _) (by rw [rg9]; exact List.mem_singleton.mpr rfl)) (by decide)
        simp (disch := omega) only [b151_55, b151_62, b151_69, b151_75, b151_86, e10, e01, em10, eq_self, lt0_nI, ge0_nI, cl_nI, le_nI, lt_nI, eq_nI, ne_m1, le40, lt40, gd_nI, nI_1, yle, nle, ylt, nlt, reduceIte, if_true, if_false, and_true, true_and, and_false, false_and, or_true, true_or, or_false, false_or, not_true_eq_false, not_false_eq_true, rI_some, rL_some, rV_some, rA_ref, rA_null, b01, b01', i01, lcmp0, lcmp_lt, lcmp_gt, om1, m1_lt0, hp, h2, i01f, c_topG w, ht, Bool.false_eq_true]
        by_cases hca : c = a
        · subst hca
          simp (disch := omega) only [b151_101, b151_105, b151_106, e10, e01, em10, eq_self, lt0_nI, ge0_nI, cl_nI, le_nI, lt_nI, eq_nI, ne_m1, le40, lt40, gd_nI, nI_1, yle, nle, ylt, nlt, reduceIte, if_true, if_false, and_true, true_and, and_false, false_and, or_true, true_or, or_false, false_or, not_true_eq_false, not_false_eq_true, rI_some, rL_some, rV_some, rA_ref, rA_null, b01, b01', i01, lcmp0, lcmp_lt, lcmp_gt, om1, m1_lt0]
          have : mv = 1 := by rw [hmv]; simp [i01f]
          subst this
          simp (disch := omega) only [b151_109, b151_115, b151_134, e10, e01, em10, eq_self, lt0_nI, ge0_nI, cl_nI, le_nI, lt_nI, eq_nI, ne_m1, le40, lt40, gd_nI, nI_1, yle, nle, ylt, nlt, reduceIte, if_true, if_false, and_true, true_and, and_false, false_and, or_true, true_or, or_false, false_or, not_true_eq_false, not_false_eq_true, rI_some, rL_some, rV_some, rA_ref, rA_null, b01, b01', i01, lcmp0, lcmp_lt, lcmp_gt, om1, m1_lt0, c_par w2 hc, c_bit w2 hc]
        · simp (disch := omega) only [b151_101, b151_105, b151_106, e10, e01, em10, eq_self, lt0_nI, ge0_nI, cl_nI, le_nI, lt_nI, eq_nI, ne_m1, le40, lt40, gd_nI, nI_1, yle, nle, ylt, nlt, reduceIte, if_true, if_false, and_true, true_and, and_false, false_and, or_true, true_or, or_false, false_or, not_true_eq_false, not_false_eq_true, rI_some, rL_some, rV_some, rA_ref, rA_null, b01, b01', i01, lcmp0, lcmp_lt, lcmp_gt, om1, m1_lt0, hca]
          have : mv = 0 := by rw [hmv]; simp [i01f, hca]
          subst this
          simp (disch := omega) only [b151_109, b151_115, b151_134, e10, e01, em10, eq_self, lt0_nI, ge0_nI, cl_nI, le_nI, lt_nI, eq_nI, ne_m1, le40, lt40, gd_nI, nI_1, yle, nle, ylt, nlt, reduceIte, if_true, if_false, and_true, true_and, and_false, false_and, or_true, true_or, or_false, false_or, not_true_eq_false, not_false_eq_true, rI_some, rL_some, rV_some, rA_ref, rA_null, b01, b01', i01, lcmp0, lcmp_lt, lcmp_gt, om1, m1_lt0, c_par w2 hc, c_bit w2 hc]
/-- search: how many are looked at, whether it is met, in which order -/
def lkA (n sl : Nat) (P Q K : Nat → Int32) (al : Int64) (a b : Nat) : Nat × Bool × (Nat → Nat) := lkI n (gen sl K) (par P Q) al a 40 (ob b &&& al) (ob b &&& al) 0 false (fun _ => 0)
def alw (n sl : Nat) (K : Nat → Int32) (a : Nat) (pl : Bool) : Int64 := if pl = true then -1 else frm (gen sl K) (gen sl K a) n
theorem r_search {h : mH} (w : HC h n sl P Q K E) {a b : Nat} (ha : a < n) (hb : b < n) (pl : Bool) : ∃ h', Rt 151 [.ref 8, .ref 1, .int (nI a), .int (nI b), .int (i01f pl)] h = some (none, h') ∧ Sx [1] h h' ∧ gI h' 8 1 = nI (lkA n sl P Q K (alw n sl K a pl) a b).1 ∧ gI h' 8 2 = i01f (lkA n sl P Q K (alw n sl K a pl) a b).2.1 ∧ ∀ j, j < (lkA n sl P Q K (alw n sl K a pl) a b).1 → gI h' 9 j = nI ((lkA n sl P Q K (alw n sl K a pl) a b).2.2 j) := by
  have h40 := w.2.2.2.2.2.2.2.1
  have hsx : Sx [1] h (sI (sI h 8 1 0) 8 2 0) := sx_sI (sx_sI (sx_refl _ _) (by rw [rg8]; exact List.mem_singleton.mpr rfl)) (by rw [rg8]; exact List.mem_singleton.mpr rfl)
  have w2 := hc_sx w hsx (by decide)
  have go : ∀ o6 o8 o10 o12 o13 o14, ∃ h', Ev 151 48 [some (.ref 8), some (.ref 1), some (.int (nI a)), some (.int (nI b)), some (.int (i01f pl)), some (.long (alw n sl K a pl)), o6, some (.long (ob b &&& alw n sl K a pl)), o8, some (.long (ob b &&& alw n sl K a pl)), o10, some (.int 0), o12, o13, o14] [] (sI (sI h 8 1 0) 8 2 0) = some (none, h') ∧ Sx [1] h h' ∧ gI h' 8 1 = nI (lkA n sl P Q K (alw n sl K a pl) a b).1 ∧ gI h' 8 2 = i01f (lkA n sl P Q K (alw n sl K a pl) a b).2.1 ∧ ∀ j, j < (lkA n sl P Q K (alw n sl K a pl) a b).1 → gI h' 9 j = nI ((lkA n sl P Q K (alw n sl K a pl) a b).2.2 j) := by
    intro o6 o8 o10 o12 o13 o14
    obtain ⟨h', e, e1, e2, e3, e4⟩ := search_loop ha (nI b) (i01f pl) (alw n sl K a pl) 40 0 (ob b &&& alw n sl K a pl) (ob b &&& alw n sl K a pl) false (fun _ => 0) _ o6 o8 o10 o12 o13 o14 (by omega) w2 (sub_andl (sub_ob hb (by omega))) (by rw [gI_else (by decide), gI_same]; rfl) (by rw [gI_same]; rfl) (fun j hj => by omega)
    exact ⟨h', e, sx_trans hsx e1, e2, e3, e4⟩
  show ∃ h', Ev 151 0 [some (.ref 8), some (.ref 1), some (.int (nI a)), some (.int (nI b)), some (.int (i01f pl)), none, none, none, none, none, none, none, none, none, none] [] h = some (none, h') ∧ _
  cases pl with
  | true =>
    obtain ⟨h', e, er⟩ := go (kil none) none none none none none
    refine ⟨h', ?_, er⟩
    · rw [← e]
      simp (disch := omega) only [b151_0, b151_15, b151_21, b151_27, b151_30, b151_36, b151_55, b151_62, b151_69, b151_75, b151_86, b151_101, b151_105, b151_106, b151_109, b151_115, b151_134, b151_157, e10, e01, em10, eq_self, lt0_nI, ge0_nI, cl_nI, le_nI, lt_nI, eq_nI, ne_m1, le40, lt40, gd_nI, nI_1, yle, nle, ylt, nlt, reduceIte, if_true, if_false, and_true, true_and, and_false, false_and, or_true, true_or, or_false, false_or, not_true_eq_false, not_false_eq_true, rI_some, rL_some, rV_some, rA_ref, rA_null, b01, b01', i01, lcmp0, lcmp_lt, lcmp_gt, om1, m1_lt0, i01f, c_bit w2 hb, alw]
  | false =>
    obtain ⟨h', e, er⟩ := go (kil none) none none none none none
    refine ⟨h', ?_, er⟩
    · rw [← e]
      simp (disch := omega) only [b151_0, b151_15, b151_21, b151_27, b151_30, b151_36, b151_55, b151_62, b151_69, b151_75, b151_86, b151_101, b151_105, b151_106, b151_109, b151_115, b151_134, b151_157, e10, e01, em10, eq_self, lt0_nI, ge0_nI, cl_nI, le_nI, lt_nI, eq_nI, ne_m1, le40, lt40, gd_nI, nI_1, yle, nle, ylt, nlt, reduceIte, if_true, if_false, and_true, true_and, and_false, false_and, or_true, true_or, or_false, false_or, not_true_eq_false, not_false_eq_true, rI_some, rL_some, rV_some, rA_ref, rA_null, b01, b01', i01, lcmp0, lcmp_lt, lcmp_gt, om1, m1_lt0, i01f, c_bit w2 hb, alw, c_gen w2 ha, c_frm w2, Bool.false_eq_true]
end LK
