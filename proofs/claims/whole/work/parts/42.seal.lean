/-! SEAL. -/
def jn : Nat → Nat → (Nat → Int32) → Nat × (Nat → Int32)
  | 0, l, L => (l, L)
  | f + 1, l, L => if l ≤ 1 then (l, L) else if L (l - 2) ≤ 2 * L (l - 1) then jn f (l - 1) (up L (l - 2) (L (l - 2) + L (l - 1))) else (l, L)
theorem jn_1 {f l : Nat} {L : Nat → Int32} (h : l ≤ 1) : jn f l L = (l, L) := by cases f <;> simp [jn, h]
theorem jn_le : ∀ (f l : Nat) (L : Nat → Int32), (jn f l L).1 ≤ l
  | 0, l, L => Nat.le_refl l
  | f + 1, l, L => by
    unfold jn
    split
    · exact Nat.le_refl l
    · split
      · have := jn_le f (l - 1) (up L (l - 2) (L (l - 2) + L (l - 1)))
        omega
      · exact Nat.le_refl l
/-- all else stays -/
def Fc (h h' : mH) : Prop := (∀ k j, ¬ k = 7 → ¬ (k = 1 ∧ j = 8) → gI h' k j = gI h k j) ∧ gJ h' = gJ h
def Fm (h h' : mH) : Prop := (∀ k j, ¬ k = 36 → ¬ (k = 27 ∧ j = 11) → gI h' k j = gI h k j) ∧ gJ h' = gJ h
theorem fc_step {h : mH} (k : Nat) (x y : Int32) : Fc h (sI (sI h 7 k x) 1 8 y) := by
  refine ⟨fun k' j' h1 h2 => ?_, ?_⟩
  · rw [gI_else h2, gI_else (fun q => h1 q.1)]
  · funext k' j'; rw [gJ_sI, gJ_sI]
theorem fm_step {h : mH} (k : Nat) (x y : Int32) : Fm h (sI (sI h 36 k x) 27 11 y) := by
  refine ⟨fun k' j' h1 h2 => ?_, ?_⟩
  · rw [gI_else h2, gI_else (fun q => h1 q.1)]
  · funext k' j'; rw [gJ_sI, gJ_sI]
theorem fc_trans {h h1 h2 : mH} (a : Fc h h1) (b : Fc h1 h2) : Fc h h2 := ⟨fun k j p q => (b.1 k j p q).trans (a.1 k j p q), b.2.trans a.2⟩
theorem fm_trans {h h1 h2 : mH} (a : Fm h h1) (b : Fm h1 h2) : Fm h h2 := ⟨fun k j p q => (b.1 k j p q).trans (a.1 k j p q), b.2.trans a.2⟩
theorem fc_refl (h : mH) : Fc h h := ⟨fun _ _ _ _ => rfl, rfl⟩
theorem fm_refl (h : mH) : Fm h h := ⟨fun _ _ _ _ => rfl, rfl⟩
theorem up_sI (h : mH) (k p : Nat) (x : Int32) : gI (sI h k p x) k = up (gI h k) p x := by
  funext j; rw [gI_sI]; unfold up
  by_cases hj : j = p
  · subst hj; simp
  · simp [hj]
theorem ni_1 {l : Nat} (h : 1 ≤ l) : nI l - 1 = nI (l - 1) := by rw [show (1 : Int32) = nI 1 from rfl, pk_sub h]
theorem ni_2 {l : Nat} (h : 2 ≤ l) : nI l - 2 = nI (l - 2) := by rw [show (2 : Int32) = nI 2 from rfl, pk_sub h]
theorem join_loop : ∀ (f st l : Nat) (h : mH) (o2 o3 : Option Value), st + f = 40 → l ≤ 40 → gI h 1 8 = nI l → ∃ h', Ev 131 2 [some (.ref 1), some (.int (nI st)), o2, o3] [] h = some (none, h') ∧ Fc h h' ∧ gI h' 1 8 = nI (jn f l (gI h 7)).1 ∧ gI h' 7 = (jn f l (gI h 7)).2
  | 0, st, l, h, o2, o3, hk, hl, e => by
    obtain rfl : st = 40 := by omega
    refine ⟨h, ?_, fc_refl h, e, rfl⟩
    rw [b131_2]
    simp (disch := omega) only [b131_74, e10, e01, em10, eq_self, lt0_nI, ge0_nI, cl_nI, le_nI, lt_nI, eq_nI, ne_m1, le40, lt40, gd_nI, nI_1, yle, nle, ylt, nlt, reduceIte, if_true, if_false, and_true, true_and, and_false, false_and, or_true, true_or, or_false, false_or, not_true_eq_false, not_false_eq_true, rI_some, rL_some, rV_some, rA_ref, rA_null, b01, b01', i01, lcmp0, lcmp_lt, lcmp_gt, om1, m1_lt0]
  | f + 1, st, l, h, o2, o3, hk, hl, e => by
    have n40 : ¬ (40 : Int32) ≤ nI st := by rw [le40 (by omega)]; omega
    by_cases h1 : l ≤ 1
    · rw [jn_1 h1]
      refine ⟨h, ?_, fc_refl h, e, rfl⟩
      rw [b131_2, if_neg n40, b131_8, e, if_pos (show nI l ≤ (1 : Int32) from by rw [show (1 : Int32) = nI 1 from rfl, le_nI (by omega) (by omega)]; exact h1), b131_74]
    have n1 : ¬ nI l ≤ (1 : Int32) := by rw [show (1 : Int32) = nI 1 from rfl, le_nI (by omega) (by omega)]; exact h1
    have pre : Ev 131 2 [some (.ref 1), some (.int (nI st)), o2, o3] [] h = if gI h 7 (l - 2) ≤ 2 * gI h 7 (l - 1) then Ev 131 48 [some (.ref 1), some (.int (nI st)), some (.int (nI (l - 2))), some (.int (nI (l - 1)))] [] h else Ev 131 47 [some (.ref 1), some (.int (nI st)), some (.int (nI (l - 2))), some (.int (nI (l - 1)))] [] h := by
      rw [b131_2, if_neg n40, b131_8, e, if_neg n1, b131_16, e, ni_2 (by omega), ni_1 (by omega)]
      simp (disch := omega) only [b131_36, b131_43, e10, e01, em10, eq_self, lt0_nI, ge0_nI, cl_nI, le_nI, lt_nI, eq_nI, ne_m1, le40, lt40, gd_nI, nI_1, yle, nle, ylt, nlt, reduceIte, if_true, if_false, and_true, true_and, and_false, false_and, or_true, true_or, or_false, false_or, not_true_eq_false, not_false_eq_true, rI_some, rL_some, rV_some, rA_ref, rA_null, b01, b01', i01, lcmp0, lcmp_lt, lcmp_gt, om1, m1_lt0]
    rw [pre, jn, if_neg h1]
    by_cases h2 : gI h 7 (l - 2) ≤ 2 * gI h 7 (l - 1)
    · rw [if_pos h2, if_pos h2]
      obtain ⟨h3, e3⟩ : ∃ h3, h3 = sI (sI h 7 (l - 2) (gI h 7 (l - 2) + gI h 7 (l - 1))) 1 8 (nI (l - 1)) := ⟨_, rfl⟩
      have q1 : gI h3 1 8 = nI (l - 1) := by rw [e3]; simp (disch := omega) only [fI_sJ, fJ_sI, fI_ne, fJ_ne, gI_sI, gJ_sJ, Nat.reduceEqDiff, eq_self, and_true, true_and, and_false, false_and, and_self, if_true, if_false, reduceIte, Nat.succ_ne_zero]
      have q2 : gI h3 7 = up (gI h 7) (l - 2) (gI h 7 (l - 2) + gI h 7 (l - 1)) := by rw [e3, fI_ne (by omega), up_sI]
      obtain ⟨h', f1, f2, f3, f4⟩ := join_loop f (st + 1) (l - 1) h3 (some (.int (nI (l - 2)))) (some (.int (nI (l - 1)))) (by omega) (by omega) q1
      rw [q2] at f3 f4
      refine ⟨h', ?_, fc_trans (by rw [e3]; exact fc_step _ _ _) f2, f3, f4⟩
      rw [← f1, e3]
      simp (disch := omega) only [b131_48, b131_55, b131_61, b131_63, e10, e01, em10, eq_self, lt0_nI, ge0_nI, cl_nI, le_nI, lt_nI, eq_nI, ne_m1, le40, lt40, gd_nI, nI_1, yle, nle, ylt, nlt, reduceIte, if_true, if_false, and_true, true_and, and_false, false_and, or_true, true_or, or_false, false_or, not_true_eq_false, not_false_eq_true, rI_some, rL_some, rV_some, rA_ref, rA_null, b01, b01', i01, lcmp0, lcmp_lt, lcmp_gt, om1, m1_lt0]
    · rw [if_neg h2, if_neg h2]
      refine ⟨h, ?_, fc_refl h, e, rfl⟩
      rw [b131_47]
theorem seal_loop : ∀ (f l : Nat) (h : mH), l ≤ f → l ≤ 40 → gI h 27 11 = nI l → ∃ h', Ev 65 50 [some (.ref 27)] [] h = some (some (.int (nI (jn f l (gI h 36)).1)), h') ∧ Fm h h' ∧ gI h' 27 11 = nI (jn f l (gI h 36)).1 ∧ gI h' 36 = (jn f l (gI h 36)).2 := by
  intro f
  induction f with
  | zero =>
    intro l h hf hl e
    obtain rfl : l = 0 := by omega
    refine ⟨h, ?_, fm_refl h, e, rfl⟩
    rw [b65_50, e, if_pos (by decide), b65_123, e]; rfl
  | succ f ih =>
    intro l h hf hl e
    by_cases h1 : l ≤ 1
    · rw [jn_1 h1]
      refine ⟨h, ?_, fm_refl h, e, rfl⟩
      rw [b65_50, e, if_pos (show nI l ≤ (1 : Int32) from by rw [show (1 : Int32) = nI 1 from rfl, le_nI (by omega) (by omega)]; exact h1), b65_123, e]
    have n1 : ¬ nI l ≤ (1 : Int32) := by rw [show (1 : Int32) = nI 1 from rfl, le_nI (by omega) (by omega)]; exact h1
    have pre : Ev 65 50 [some (.ref 27)] [] h = if 2 * gI h 36 (l - 1) < gI h 36 (l - 2) then Ev 65 123 [some (.ref 27)] [] h else Ev 65 85 [some (.ref 27)] [] h := by
      rw [b65_50, e, if_neg n1]
      simp (disch := omega) only [b65_58, b65_69, b65_81, e10, e01, em10, eq_self, lt0_nI, ge0_nI, cl_nI, le_nI, lt_nI, eq_nI, ne_m1, le40, lt40, gd_nI, nI_1, yle, nle, ylt, nlt, reduceIte, if_true, if_false, and_true, true_and, and_false, false_and, or_true, true_or, or_false, false_or, not_true_eq_false, not_false_eq_true, rI_some, rL_some, rV_some, rA_ref, rA_null, b01, b01', i01, lcmp0, lcmp_lt, lcmp_gt, om1, m1_lt0, e, ni_2, ni_1]
    rw [pre, jn, if_neg h1]
    by_cases h2 : gI h 36 (l - 2) ≤ 2 * gI h 36 (l - 1)
    · rw [if_neg (Int32.not_lt.mpr h2), if_pos h2]
      obtain ⟨h3, e3⟩ : ∃ h3, h3 = sI (sI h 36 (l - 2) (gI h 36 (l - 2) + gI h 36 (l - 1))) 27 11 (nI (l - 1)) := ⟨_, rfl⟩
      have q1 : gI h3 27 11 = nI (l - 1) := by rw [e3]; simp (disch := omega) only [fI_sJ, fJ_sI, fI_ne, fJ_ne, gI_sI, gJ_sJ, Nat.reduceEqDiff, eq_self, and_true, true_and, and_false, false_and, and_self, if_true, if_false, reduceIte, Nat.succ_ne_zero]
      have q2 : gI h3 36 = up (gI h 36) (l - 2) (gI h 36 (l - 2) + gI h 36 (l - 1)) := by rw [e3, fI_ne (by omega), up_sI]
      obtain ⟨h', f1, f2, f3, f4⟩ := ih (l - 1) h3 (by omega) (by omega) q1
      rw [q2] at f1 f3 f4
      refine ⟨h', ?_, fm_trans (by rw [e3]; exact fm_step _ _ _) f2, f3, f4⟩
      rw [← f1, e3]
      have q3 : gI (sI h 36 (l - 2) (gI h 36 (l - 2) + gI h 36 (l - 1))) 27 11 = nI l := by simp (disch := omega) only [fI_sJ, fJ_sI, fI_ne, fJ_ne, gI_sI, gJ_sJ, Nat.reduceEqDiff, eq_self, and_true, true_and, and_false, false_and, and_self, if_true, if_false, reduceIte, Nat.succ_ne_zero, e]
      simp (disch := omega) only [b65_85, b65_97, b65_108, e10, e01, em10, eq_self, lt0_nI, ge0_nI, cl_nI, le_nI, lt_nI, eq_nI, ne_m1, le40, lt40, gd_nI, nI_1, yle, nle, ylt, nlt, reduceIte, if_true, if_false, and_true, true_and, and_false, false_and, or_true, true_or, or_false, false_or, not_true_eq_false, not_false_eq_true, rI_some, rL_some, rV_some, rA_ref, rA_null, b01, b01', i01, lcmp0, lcmp_lt, lcmp_gt, om1, m1_lt0, e, ni_2, ni_1]
      rw [b65_110, q3, ni_1 (by omega)]
    · rw [if_pos (Int32.not_le.mp h2), if_neg h2]
      refine ⟨h, ?_, fm_refl h, e, rfl⟩
      rw [b65_123, e]
theorem p_seal : Pr 3 65 [] := by
  intro h i
  have i' := i
  obtain ⟨n, sl, ly, ev, per, P, Q, K, E, c, m, x⟩ := i'
  have h40 := c.2.2.2.2.2.2.2.1
  have hsl := c.2.2.1
  by_cases hn : sl < n
  · obtain ⟨x1, x2, x3, x4, x5, x6, x7, x8, x9, x10, x11, x12, x13, x14, x15, x16, x17, x18, x19, x20⟩ := x
    obtain ⟨h1, e1⟩ : ∃ h1, h1 = sI (sI (sI h 7 ly (nI (n - sl))) 1 8 (nI (ly + 1))) 1 7 (nI n) := ⟨_, rfl⟩
    obtain ⟨h2, e2, e3, e4, e5⟩ := join_loop 40 0 (ly + 1) h1 none none rfl (by omega) (by rw [e1]; simp (disch := omega) only [fI_sJ, fJ_sI, fI_ne, fJ_ne, gI_sI, gJ_sJ, Nat.reduceEqDiff, eq_self, and_true, true_and, and_false, false_and, and_self, if_true, if_false, reduceIte, Nat.succ_ne_zero])
    obtain ⟨h3, e6⟩ : ∃ h3, h3 = sI (sI (sI h2 36 ly (nI (n - sl))) 27 11 (nI (ly + 1))) 27 10 (nI n) := ⟨_, rfl⟩
    obtain ⟨h4, f2, f3, f4, f5⟩ := seal_loop 40 (ly + 1) h3 (by omega) (by omega) (by rw [e6]; simp (disch := omega) only [fI_sJ, fJ_sI, fI_ne, fJ_ne, gI_sI, gJ_sJ, Nat.reduceEqDiff, eq_self, and_true, true_and, and_false, false_and, and_self, if_true, if_false, reduceIte, Nat.succ_ne_zero])
    have g7 : gI h1 7 = up (gI h 7) ly (nI (n - sl)) := by rw [e1, fI_ne (by omega), fI_ne (by omega), up_sI]
    have a2 : ∀ k j, ¬ k = 7 → ¬ (k = 1 ∧ j = 8) → ¬ (k = 1 ∧ j = 7) → gI h2 k j = gI h k j := by
      intro k j p1 p2 p3
      rw [e3.1 k j p1 p2, e1, gI_else p3, gI_else p2, gI_else (fun q => p1 q.1)]
    have b2 : gJ h2 = gJ h := by rw [e3.2, e1]; funext k j; simp only [gJ_sI]
    have g36 : gI h3 36 = gI h1 7 := by
      rw [e6, fI_ne (by omega), fI_ne (by omega), up_sI, g7, ← x2]
      rw [show gI h2 36 = gI h 36 from funext fun j => a2 36 j (by omega) (by omega) (by omega)]
    rw [g36] at f2 f4 f5
    have a4 : ∀ k j, ¬ k = 7 → ¬ (k = 1 ∧ j = 8) → ¬ (k = 1 ∧ j = 7) → ¬ k = 36 → ¬ (k = 27 ∧ j = 11) → ¬ (k = 27 ∧ j = 10) → gI h4 k j = gI h k j := by
      intro k j p1 p2 p3 p4 p5 p6
      rw [f3.1 k j p4 p5, e6, gI_else p6, gI_else p5, gI_else (fun q => p4 q.1)]
      exact a2 k j p1 p2 p3
    have a4c : ∀ k j, ¬ k = 36 → ¬ k = 27 → gI h4 k j = gI h2 k j := by
      intro k j p4 p5
      rw [f3.1 k j p4 (fun q => p5 q.1), e6, gI_else (fun q => p5 q.1), gI_else (fun q => p5 q.1), gI_else (fun q => p4 q.1)]
    have b4 : gJ h4 = gJ h := by rw [f3.2, e6, ← b2]; funext k j; simp only [gJ_sI]
    have F4 : ∀ k, ¬ k = 7 → ¬ k = 1 → ¬ k = 36 → ¬ k = 27 → gI h4 k = gI h k := fun k p1 p2 p3 p4 => funext fun j => a4 k j p1 (fun q => p2 q.1) (fun q => p2 q.1) p3 (fun q => p4 q.1) (fun q => p4 q.1)
    have sb : nI n - nI sl = nI (n - sl) := pk_sub (by omega)
    have hjn := jn_le 40 (ly + 1) (gI h1 7)
    refine ⟨some (.int (nI (jn 40 (ly + 1) (gI h1 7)).1)), h2, h4, ?_, ?_, n, n, (jn 40 (ly + 1) (gI h1 7)).1, ev, per, P, Q, K, E, ?_, ?_, ?_⟩
    · have d : Rt 130 [.ref 1] h = some (none, h2) := by
        have dj : Rt 131 [.ref 1] h1 = some (none, h2) := by
          show Ev 131 0 [some (.ref 1), none, none, none] [] h1 = _
          rw [b131_0]; exact e2
        have q1 : gI (sI h 7 ly (nI (n - sl))) 1 8 = nI ly := by simp (disch := omega) only [fI_sJ, fJ_sI, fI_ne, fJ_ne, gI_sI, gJ_sJ, Nat.reduceEqDiff, eq_self, and_true, true_and, and_false, false_and, and_self, if_true, if_false, reduceIte, Nat.succ_ne_zero, x3]
        have q2 : gI (sI (sI h 7 ly (nI (n - sl))) 1 8 (nI (ly + 1))) 1 6 = nI n := by simp (disch := omega) only [fI_sJ, fJ_sI, fI_ne, fJ_ne, gI_sI, gJ_sJ, Nat.reduceEqDiff, eq_self, and_true, true_and, and_false, false_and, and_self, if_true, if_false, reduceIte, Nat.succ_ne_zero, c.1]
        show Ev 130 0 [some (.ref 1)] [] h = _
        rw [b130_0, c.1, c.2.1, if_neg (by rw [le_nI (by omega) (by omega)]; omega), b130_11, x3, if_pos (by rw [lt40 (by omega)]; omega), b130_21, x3, c.1, c.2.1, sb, if_pos (of_eq_true (gd_nI (a := ly) (N := 40) (by omega) (by omega))), cl_nI (by omega), b130_39, q1, show nI ly + 1 = nI (ly + 1) from nI_1 _, q2, ← e1, dj, rV_some, b130_61]
      show Ev 3 0 [some (.ref 0)] [] h = _
      rw [b3_0, c.1, c.2.1, if_pos (by rw [lt_nI (by omega) (by omega)]; omega), b3_20, d, rV_some, b3_27, e4]
    · have q5 : gI h2 27 5 = nI n := by rw [a2 27 5 (by omega) (by omega) (by omega)]; exact m.1
      have q10 : gI h2 27 10 = nI sl := by rw [a2 27 10 (by omega) (by omega) (by omega)]; exact m.2.1
      have q11 : gI h2 27 11 = nI ly := by rw [a2 27 11 (by omega) (by omega) (by omega)]; exact x4
      have q1 : gI (sI h2 36 ly (nI (n - sl))) 27 11 = nI ly := by simp (disch := omega) only [fI_sJ, fJ_sI, fI_ne, fJ_ne, gI_sI, gJ_sJ, Nat.reduceEqDiff, eq_self, and_true, true_and, and_false, false_and, and_self, if_true, if_false, reduceIte, Nat.succ_ne_zero, q11]
      have q2 : gI (sI (sI h2 36 ly (nI (n - sl))) 27 11 (nI (ly + 1))) 27 5 = nI n := by simp (disch := omega) only [fI_sJ, fJ_sI, fI_ne, fJ_ne, gI_sI, gJ_sJ, Nat.reduceEqDiff, eq_self, and_true, true_and, and_false, false_and, and_self, if_true, if_false, reduceIte, Nat.succ_ne_zero, q5]
      show Ev 65 0 [some (.ref 27)] [] h2 = _
      rw [b65_0, q5, q10, if_pos (by rw [eq_nI (by omega) (by omega)]; omega), b65_14, q11, q5, q10, sb, if_pos (of_eq_true (gd_nI (a := ly) (N := 40) (by omega) (by omega))), cl_nI (by omega), b65_32, q1, show nI ly + 1 = nI (ly + 1) from nI_1 _, q2, ← e6]
      exact f2
    · obtain ⟨w1, w2, w3, w4, w5, w6, w7, w8⟩ := c
      refine ⟨?_, ?_, Nat.le_refl n, ?_, ?_, ?_, ?_, w8⟩
      · rw [a4 1 6 (by omega) (by omega) (by omega) (by omega) (by omega) (by omega)]; exact w1
      · rw [a4c 1 7 (by omega) (by omega), e3.1 1 7 (by omega) (by omega), e1]; simp (disch := omega) only [fI_sJ, fJ_sI, fI_ne, fJ_ne, gI_sI, gJ_sJ, Nat.reduceEqDiff, eq_self, and_true, true_and, and_false, false_and, and_self, if_true, if_false, reduceIte, Nat.succ_ne_zero]
      · rw [F4 2 (by omega) (by omega) (by omega) (by omega)]; exact w4
      · rw [F4 3 (by omega) (by omega) (by omega) (by omega)]; exact w5
      · rw [F4 5 (by omega) (by omega) (by omega) (by omega)]; exact w6
      · rw [b4]; exact w7
    · obtain ⟨w1, w2, w3, w4, w5, w6, w8⟩ := m
      refine ⟨?_, ?_, Nat.le_refl n, ?_, ?_, ?_, w8⟩
      · rw [a4 27 5 (by omega) (by omega) (by omega) (by omega) (by omega) (by omega)]; exact w1
      · rw [f3.1 27 10 (by omega) (by omega), e6]; simp (disch := omega) only [fI_sJ, fJ_sI, fI_ne, fJ_ne, gI_sI, gJ_sJ, Nat.reduceEqDiff, eq_self, and_true, true_and, and_false, false_and, and_self, if_true, if_false, reduceIte, Nat.succ_ne_zero]
      · rw [F4 32 (by omega) (by omega) (by omega) (by omega)]; exact w4
      · rw [F4 33 (by omega) (by omega) (by omega) (by omega)]; exact w5
      · rw [F4 34 (by omega) (by omega) (by omega) (by omega)]; exact w6
    · refine ⟨?_, ?_, ?_, f4, by omega, ?_, ?_, x8, x9, ?_, ?_, x12, x13, ?_, ?_, ?_, ?_, ?_, ?_, fun s hs => xs_of (x20 s hs) (F4 _ (by omega) (by omega) (by omega) (by omega)) (F4 _ (by omega) (by omega) (by omega) (by omega)) (F4 _ (by omega) (by omega) (by omega) (by omega)) (F4 _ (by omega) (by omega) (by omega) (by omega)) (F4 _ (by omega) (by omega) (by omega) (by omega))⟩
      · rw [F4 35 (by omega) (by omega) (by omega) (by omega), F4 4 (by omega) (by omega) (by omega) (by omega)]; exact x1
      · rw [f5, ← e5]; exact (funext fun j => a4c 7 j (by omega) (by omega)).symm
      · rw [a4c 1 8 (by omega) (by omega)]; exact e4
      · rw [F4 14 (by omega) (by omega) (by omega) (by omega)]; exact x6
      · rw [a4 27 13 (by omega) (by omega) (by omega) (by omega) (by omega) (by omega)]; exact x7
      · rw [F4 15 (by omega) (by omega) (by omega) (by omega)]; exact x10
      · rw [a4 27 14 (by omega) (by omega) (by omega) (by omega) (by omega) (by omega)]; exact x11
      · rw [a4 27 15 (by omega) (by omega) (by omega) (by omega) (by omega) (by omega), F4 15 (by omega) (by omega) (by omega) (by omega)]; exact x14
      · rw [b4]; exact x15
      · rw [b4]; exact x16
      · rw [b4]; exact x17
      · rw [b4]; exact x18
      · rw [a4 27 4 (by omega) (by omega) (by omega) (by omega) (by omega) (by omega), F4 0 (by omega) (by omega) (by omega) (by omega)]; exact x19
  · refine pr_of h i (r := some (.int (-3))) (h1 := h) (h2 := h) ?_ (sx_refl [] _) (by decide) ?_ (sx_refl [] _) (by decide)
    · show Ev 3 0 [some (.ref 0)] [] h = _
      rw [b3_0, c.1, c.2.1, if_neg (by rw [lt_nI (by omega) (by omega)]; omega), b3_17]
    · show Ev 65 0 [some (.ref 27)] [] h = _
      rw [b65_0, m.1, m.2.1, if_neg (by rw [eq_nI (by omega) (by omega)]; omega), b65_11]
