/-! The class paints. -/
section PU
variable {n sl : Nat} {P Q K : Nat → Int32} {E : Nat → Int64}
theorem sub_diff0 {pile stale : Int64} {n : Nat} (hs : sub pile n) (h : ¬ pile &&& (stale ^^^ (-1)) = 0) : ¬ pile = 0 := by
  intro hp; subst hp
  apply h
  apply bt_ext; intro j hj
  rw [bt_and, bt_zero]; rfl
theorem paint_loop (x2 x3 : Int32) : ∀ (k cnt : Nat) (one two stale pile been found : Int64) (h : mH) (o5 : Option Value), cnt + k = 40 → HC h n sl P Q K E → sub pile n → gJ h 10 0 = one → gJ h 10 1 = two → gJ h 10 2 = stale → gJ h 10 3 = pile → gJ h 10 4 = been → gJ h 10 5 = found → gI h 10 6 = nI cnt →
    ∃ h', Ev 153 55 [some (.ref 10), some (.ref 1), some (.int x2), some (.int x3), some (.int (nI cnt)), o5] [] h = some (none, h') ∧ Sx [2] h h' ∧ gJ h' 10 5 = (ptI n (gen sl K) (par P Q) k one two stale pile been found cnt).1 ∧ gI h' 10 6 = nI (ptI n (gen sl K) (par P Q) k one two stale pile been found cnt).2
  | 0, cnt, one, two, stale, pile, been, found, h, o5, hk, w, hs, f0, f1, f2, f3, f4, f5, f6 => by
    obtain rfl : cnt = 40 := by omega
    refine ⟨h, ?_, sx_refl _ _, f5, f6⟩
    rw [b153_55]
    simp (disch := omega) only [b153_169, e10, e01, em10, eq_self, lt0_nI, ge0_nI, cl_nI, le_nI, lt_nI, eq_nI, ne_m1, le40, lt40, gd_nI, nI_1, yle, nle, ylt, nlt, reduceIte, if_true, if_false, and_true, true_and, and_false, false_and, or_true, true_or, or_false, false_or, not_true_eq_false, not_false_eq_true, rI_some, rL_some, rV_some, rA_ref, rA_null, b01, b01', i01, lcmp0, lcmp_lt, lcmp_gt, om1, m1_lt0]
  | k + 1, cnt, one, two, stale, pile, been, found, h, o5, hk, w, hs, f0, f1, f2, f3, f4, f5, f6 => by
    have h40 := w.2.2.2.2.2.2.2.1
    have r2 : ∀ j, rg 10 j ∈ [2] := fun j => by rw [rg10]; exact List.mem_singleton.mpr rfl
    unfold ptI
    by_cases hp : pile &&& (stale ^^^ (-1)) = 0
    · rw [if_pos hp]
      refine ⟨h, ?_, sx_refl _ _, f5, f6⟩
      rw [b153_55]
      simp (disch := omega) only [b153_62, b153_169, e10, e01, em10, eq_self, lt0_nI, ge0_nI, cl_nI, le_nI, lt_nI, eq_nI, ne_m1, le40, lt40, gd_nI, nI_1, yle, nle, ylt, nlt, reduceIte, if_true, if_false, and_true, true_and, and_false, false_and, or_true, true_or, or_false, false_or, not_true_eq_false, not_false_eq_true, rI_some, rL_some, rV_some, rA_ref, rA_null, b01, b01', i01, lcmp0, lcmp_lt, lcmp_gt, om1, m1_lt0, f2, f3, hp]
    · rw [if_neg hp]
      obtain ⟨c, hc, ht, hbc⟩ := top_of (g := gen sl K) h40 hs (sub_diff0 hs hp)
      have ec : (tG (gen sl K) pile n).toNatClampNeg = c := by rw [ht, cl_nI (by omega)]
      rw [ec]
      obtain ⟨h1, eh1⟩ : ∃ h1, h1 = sI (sJ h 10 3 (pile &&& (ob c ^^^ (-1)))) 10 6 (nI (cnt + 1)) := ⟨_, rfl⟩
      obtain ⟨h2, eh2⟩ : ∃ h2, h2 = sJ h1 10 5 (found ||| (((ob c &&& one) &&& two) &&& (stale ^^^ (-1)))) := ⟨_, rfl⟩
      have s1 : Sx [2] h h1 := by rw [eh1]; exact sx_sI (sx_sJ (sx_refl _ _) (r2 _)) (r2 _)
      have s2 : Sx [2] h h2 := by rw [eh2]; exact sx_sJ s1 (r2 _)
      have w1 := hc_sx w s1 (by decide)
      have w2 := hc_sx w s2 (by decide)
      obtain ⟨h3, e0, e1, e2, e3, e4, e5, e6, e7, e8⟩ := r_ppassOn (h := h2) (show c < 40 by omega) (par P Q c)
      have w3 := hc_sx w2 e1 (by decide)
      have a0 : gJ h2 10 0 = one := by rw [eh2, eh1]; simp only [gI_sI, gJ_sJ, gI_sJ, gJ_sI, Nat.reduceEqDiff, eq_self, and_true, true_and, and_false, false_and, and_self, if_true, if_false, reduceIte, Nat.succ_ne_zero, f0]
      have a1 : gJ h2 10 1 = two := by rw [eh2, eh1]; simp only [gI_sI, gJ_sJ, gI_sJ, gJ_sI, Nat.reduceEqDiff, eq_self, and_true, true_and, and_false, false_and, and_self, if_true, if_false, reduceIte, Nat.succ_ne_zero, f1]
      have a2 : gJ h2 10 2 = stale := by rw [eh2, eh1]; simp only [gI_sI, gJ_sJ, gI_sJ, gJ_sI, Nat.reduceEqDiff, eq_self, and_true, true_and, and_false, false_and, and_self, if_true, if_false, reduceIte, Nat.succ_ne_zero, f2]
      have a3 : gJ h2 10 3 = pile &&& (ob c ^^^ (-1)) := by rw [eh2, eh1]; simp only [gI_sI, gJ_sJ, gI_sJ, gJ_sI, Nat.reduceEqDiff, eq_self, and_true, true_and, and_false, false_and, and_self, if_true, if_false, reduceIte, Nat.succ_ne_zero]
      have a4 : gJ h2 10 4 = been := by rw [eh2, eh1]; simp only [gI_sI, gJ_sJ, gI_sJ, gJ_sI, Nat.reduceEqDiff, eq_self, and_true, true_and, and_false, false_and, and_self, if_true, if_false, reduceIte, Nat.succ_ne_zero, f4]
      have a5 : gJ h2 10 5 = found ||| (((ob c &&& one) &&& two) &&& (stale ^^^ (-1))) := by rw [eh2, eh1]; simp only [gI_sI, gJ_sJ, gI_sJ, gJ_sI, Nat.reduceEqDiff, eq_self, and_true, true_and, and_false, false_and, and_self, if_true, if_false, reduceIte, Nat.succ_ne_zero]
      have a6 : gI h2 10 6 = nI (cnt + 1) := by rw [eh2, eh1]; simp only [gI_sI, gJ_sJ, gI_sJ, gJ_sI, Nat.reduceEqDiff, eq_self, and_true, true_and, and_false, false_and, and_self, if_true, if_false, reduceIte, Nat.succ_ne_zero]
      rw [a0] at e2; rw [a1] at e3; rw [a2, a0, a1] at e4; rw [a3, a4] at e5; rw [a4] at e6; rw [a5, found_ifs (by omega)] at e7; rw [a6] at e8
      obtain ⟨h', g0, g1, g2, g3⟩ := paint_loop x2 x3 k (cnt + 1) _ _ _ _ _ _ h3 (some (.int (nI c))) (by omega) w3 (sub_or (sub_andl hs) (sub_andl (sub_par w.2.2.2.2.2.2.2 hc))) e2 e3 e4 e5 e6 e7 e8
      refine ⟨h', ?_, sx_trans s2 (sx_trans e1 g1), g2, g3⟩
      rw [← g0, b153_55]
      have q6 : gI (sJ h 10 3 (pile &&& (ob c ^^^ (-1)))) 10 6 = nI cnt := by simp only [gI_sI, gJ_sJ, gI_sJ, gJ_sI, Nat.reduceEqDiff, eq_self, and_true, true_and, and_false, false_and, and_self, if_true, if_false, reduceIte, Nat.succ_ne_zero, f6]
      have q5 : gJ h1 10 5 = found := by rw [eh1]; simp only [gI_sI, gJ_sJ, gI_sJ, gJ_sI, Nat.reduceEqDiff, eq_self, and_true, true_and, and_false, false_and, and_self, if_true, if_false, reduceIte, Nat.succ_ne_zero, f5]
      have q0 : gJ h1 10 0 = one := by rw [eh1]; simp only [gI_sI, gJ_sJ, gI_sJ, gJ_sI, Nat.reduceEqDiff, eq_self, and_true, true_and, and_false, false_and, and_self, if_true, if_false, reduceIte, Nat.succ_ne_zero, f0]
      have q1 : gJ h1 10 1 = two := by rw [eh1]; simp only [gI_sI, gJ_sJ, gI_sJ, gJ_sI, Nat.reduceEqDiff, eq_self, and_true, true_and, and_false, false_and, and_self, if_true, if_false, reduceIte, Nat.succ_ne_zero, f1]
      have q2 : gJ h1 10 2 = stale := by rw [eh1]; simp only [gI_sI, gJ_sJ, gI_sJ, gJ_sI, Nat.reduceEqDiff, eq_self, and_true, true_and, and_false, false_and, and_self, if_true, if_false, reduceIte, Nat.succ_ne_zero, f2]
      simp (disch := omega) only [b153_62, b153_80, b153_88, b153_100, e10, e01, em10, eq_self, lt0_nI, ge0_nI, cl_nI, le_nI, lt_nI, eq_nI, ne_m1, le40, lt40, gd_nI, nI_1, yle, nle, ylt, nlt, reduceIte, if_true, if_false, and_true, true_and, and_false, false_and, or_true, true_or, or_false, false_or, not_true_eq_false, not_false_eq_true, rI_some, rL_some, rV_some, rA_ref, rA_null, b01, b01', i01, lcmp0, lcmp_lt, lcmp_gt, om1, m1_lt0, f2, f3, hp, c_topG w, ht, c_bit w hc, q6]
      rw [← eh1]
      simp (disch := omega) only [b153_128, c_bit w1 hc, rL_some, q5, q0, q1, q2]
      rw [← eh2]
      simp (disch := omega) only [b153_160, b153_163, c_par w2 hc, e10, e01, em10, eq_self, lt0_nI, ge0_nI, cl_nI, le_nI, lt_nI, eq_nI, ne_m1, le40, lt40, gd_nI, nI_1, yle, nle, ylt, nlt, reduceIte, if_true, if_false, and_true, true_and, and_false, false_and, or_true, true_or, or_false, false_or, not_true_eq_false, not_false_eq_true, rI_some, rL_some, rV_some, rA_ref, rA_null, b01, b01', i01, lcmp0, lcmp_lt, lcmp_gt, om1, m1_lt0, e0]
def ptA (n sl : Nat) (P Q K : Nat → Int32) (a b : Nat) : Int64 × Nat := ptI n (gen sl K) (par P Q) 40 (ob a) (ob b) 0 (ob a ||| ob b) (ob a ||| ob b) 0 0
theorem r_paint {h : mH} (w : HC h n sl P Q K E) {a b : Nat} (ha : a < n) (hb : b < n) : ∃ h', Rt 153 [.ref 10, .ref 1, .int (nI a), .int (nI b)] h = some (none, h') ∧ Sx [2] h h' ∧ gJ h' 10 5 = (ptA n sl P Q K a b).1 ∧ gI h' 10 6 = nI (ptA n sl P Q K a b).2 := by
  have h40 := w.2.2.2.2.2.2.2.1
  have r2 : ∀ j, rg 10 j ∈ [2] := fun j => by rw [rg10]; exact List.mem_singleton.mpr rfl
  obtain ⟨h1, eh1⟩ : ∃ h1, h1 = sJ h 10 0 (ob a) := ⟨_, rfl⟩
  have s1 : Sx [2] h h1 := by rw [eh1]; exact sx_sJ (sx_refl _ _) (r2 _)
  have w1 := hc_sx w s1 (by decide)
  obtain ⟨h2, eh2⟩ : ∃ h2, h2 = sI (sJ (sJ (sJ (sJ (sJ h1 10 1 (ob b)) 10 2 0) 10 3 (ob a ||| ob b)) 10 4 (ob a ||| ob b)) 10 5 0) 10 6 0 := ⟨_, rfl⟩
  have s2 : Sx [2] h h2 := by rw [eh2]; exact sx_sI (sx_sJ (sx_sJ (sx_sJ (sx_sJ (sx_sJ s1 (r2 _)) (r2 _)) (r2 _)) (r2 _)) (r2 _)) (r2 _)
  have w2 := hc_sx w s2 (by decide)
  obtain ⟨h', e0, e1, e2, e3⟩ := paint_loop (nI a) (nI b) 40 0 (ob a) (ob b) 0 (ob a ||| ob b) (ob a ||| ob b) 0 h2 none (by omega) w2 (sub_or (sub_ob ha (by omega)) (sub_ob hb (by omega))) (by rw [eh2, eh1]; simp only [gI_sI, gJ_sJ, gI_sJ, gJ_sI, Nat.reduceEqDiff, eq_self, and_true, true_and, and_false, false_and, and_self, if_true, if_false, reduceIte, Nat.succ_ne_zero]) (by rw [eh2]; simp only [gI_sI, gJ_sJ, gI_sJ, gJ_sI, Nat.reduceEqDiff, eq_self, and_true, true_and, and_false, false_and, and_self, if_true, if_false, reduceIte, Nat.succ_ne_zero]) (by rw [eh2]; simp only [gI_sI, gJ_sJ, gI_sJ, gJ_sI, Nat.reduceEqDiff, eq_self, and_true, true_and, and_false, false_and, and_self, if_true, if_false, reduceIte, Nat.succ_ne_zero]) (by rw [eh2]; simp only [gI_sI, gJ_sJ, gI_sJ, gJ_sI, Nat.reduceEqDiff, eq_self, and_true, true_and, and_false, false_and, and_self, if_true, if_false, reduceIte, Nat.succ_ne_zero]) (by rw [eh2]; simp only [gI_sI, gJ_sJ, gI_sJ, gJ_sI, Nat.reduceEqDiff, eq_self, and_true, true_and, and_false, false_and, and_self, if_true, if_false, reduceIte, Nat.succ_ne_zero]) (by rw [eh2]; simp only [gI_sI, gJ_sJ, gI_sJ, gJ_sI, Nat.reduceEqDiff, eq_self, and_true, true_and, and_false, false_and, and_self, if_true, if_false, reduceIte, Nat.succ_ne_zero]) (by rw [eh2]; simp only [gI_sI, gJ_sJ, gI_sJ, gJ_sI, Nat.reduceEqDiff, eq_self, and_true, true_and, and_false, false_and, and_self, if_true, if_false, reduceIte, Nat.succ_ne_zero]; rfl)
  refine ⟨h', ?_, sx_trans s2 e1, e2, e3⟩
  show Ev 153 0 [some (.ref 10), some (.ref 1), some (.int (nI a)), some (.int (nI b)), none, none] [] h = _
  refine Eq.trans ?_ e0
  simp only [b153_0, b153_5, c_bit w ha, rL_some, ← eh1, c_bit w1 hb]
  rw [b153_13]
  have q0 : gJ h1 10 0 = ob a := by rw [eh1]; simp only [gI_sI, gJ_sJ, gI_sJ, gJ_sI, Nat.reduceEqDiff, eq_self, and_true, true_and, and_false, false_and, and_self, if_true, if_false, reduceIte, Nat.succ_ne_zero]
  simp only [gI_sI, gJ_sJ, gI_sJ, gJ_sI, Nat.reduceEqDiff, eq_self, and_true, true_and, and_false, false_and, and_self, if_true, if_false, reduceIte, Nat.succ_ne_zero, q0]
  rw [eh2]; rfl
end PU
