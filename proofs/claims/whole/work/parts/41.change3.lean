/-! COUNT, BACK, SEAL. -/
section CJ
variable {n sl ly ev per : Nat} {P Q K : Nat → Int32} {E : Nat → Int64} {h h' : mH}
/-- what is counted -/
def cnB (h : mH) (n sl ly : Nat) (s : Tk) (g : Int64) (x : Nat) : Int32 := if x = 0 then nI n else if x = 1 then nI sl else if x = 2 then nI ly else if x = 3 then nI (ct (gJ h 15 0) 40) else if x = 4 then nI (ct (gJ h 15 1) 40) else if x = 5 then nI s.hd else if x = 6 then nI s.t else if x = 7 then nI (ct (g &&& (s.cm ^^^ (-1))) 40) else gI h 0 7
theorem j8 {j : Nat} (hj : j ≤ 8) : j = 0 ∨ j = 1 ∨ j = 2 ∨ j = 3 ∨ j = 4 ∨ j = 5 ∨ j = 6 ∨ j = 7 ∨ j = 8 := by omega
theorem ni_ne {a b : Nat} (ha : a < 1000) (hb : b < 1000) (h : ¬ a = b) : ¬ nI a = nI b := by rw [eq_nI (by omega) (by omega)]; exact h
theorem cn_c0 (c : HC h n sl P Q K E) (x : Ix h n sl ly ev per) (s : Tk) (g : Int64) {j : Nat} (hj : j ≤ 4 ∨ j = 8) : Rt 31 [.ref 0, .int (nI j)] h = some (some (.int (cnB h n sl ly s g j)), h) := by
  have h40 := c.2.2.2.2.2.2.2.1
  obtain ⟨x1, x2, x3, x4, x5, x6, x7, x8, x9, x10, x11, x12, x13, x14, x15, x16, x17, x18, x19, x20⟩ := x
  show Ev 31 0 [some (.ref 0), some (.int (nI j))] [] h = _
  have : j = 0 ∨ j = 1 ∨ j = 2 ∨ j = 3 ∨ j = 4 ∨ j = 8 := by omega
  rw [b31_0]
  rcases this with rfl | rfl | rfl | rfl | rfl | rfl
  · rw [if_pos (show nI 0 = 0 from rfl), b31_48, c.1]; rfl
  · rw [if_neg (show ¬ nI 1 = 0 by decide), if_pos (show nI 1 = 1 from rfl), b31_56, c.2.1]; rfl
  · rw [if_neg (show ¬ nI 2 = 0 by decide), if_neg (show ¬ nI 2 = 1 by decide), if_pos (show nI 2 = 2 from rfl), b31_64, x3]; rfl
  · rw [if_neg (show ¬ nI 3 = 0 by decide), if_neg (show ¬ nI 3 = 1 by decide), if_neg (show ¬ nI 3 = 2 by decide), if_pos (show nI 3 = 3 from rfl), b31_72, r_bitCount, rI_some, b31_82, ct64 x17 h40]; rfl
  · rw [if_neg (show ¬ nI 4 = 0 by decide), if_neg (show ¬ nI 4 = 1 by decide), if_neg (show ¬ nI 4 = 2 by decide), if_neg (show ¬ nI 4 = 3 by decide), if_pos (show nI 4 = 4 from rfl), b31_83, r_bitCount, rI_some, b31_93, ct64 x18 h40]; rfl
  · rw [if_neg (show ¬ nI 8 = 0 by decide), if_neg (show ¬ nI 8 = 1 by decide), if_neg (show ¬ nI 8 = 2 by decide), if_neg (show ¬ nI 8 = 3 by decide), if_neg (show ¬ nI 8 = 4 by decide), if_neg (show ¬ nI 8 = 5 by decide), if_neg (show ¬ nI 8 = 6 by decide), if_neg (show ¬ nI 8 = 7 by decide), b31_122]; rfl
theorem cn_c1 (c : HC h n sl P Q K E) {s : Tk} (q : TC h (orE E (gJ h' 15 1) n) s) {j : Nat} (hj : j = 5 ∨ j = 6 ∨ j = 7) : Rt 31 [.ref 0, .int (nI j)] h = some (some (.int (cnB h n sl ly s (orE E (gJ h' 15 1) n) j)), h) := by
  have h40 := c.2.2.2.2.2.2.2.1
  show Ev 31 0 [some (.ref 0), some (.int (nI j))] [] h = _
  rw [b31_0]
  rcases hj with rfl | rfl | rfl
  · rw [if_neg (show ¬ nI 5 = 0 by decide), if_neg (show ¬ nI 5 = 1 by decide), if_neg (show ¬ nI 5 = 2 by decide), if_neg (show ¬ nI 5 = 3 by decide), if_neg (show ¬ nI 5 = 4 by decide), if_pos (show nI 5 = 5 from rfl), b31_94, q.2.2.2.2.2.1]; rfl
  · rw [if_neg (show ¬ nI 6 = 0 by decide), if_neg (show ¬ nI 6 = 1 by decide), if_neg (show ¬ nI 6 = 2 by decide), if_neg (show ¬ nI 6 = 3 by decide), if_neg (show ¬ nI 6 = 4 by decide), if_neg (show ¬ nI 6 = 5 by decide), if_pos (show nI 6 = 6 from rfl), b31_102, q.2.2.2.2.1]; rfl
  · rw [if_neg (show ¬ nI 7 = 0 by decide), if_neg (show ¬ nI 7 = 1 by decide), if_neg (show ¬ nI 7 = 2 by decide), if_neg (show ¬ nI 7 = 3 by decide), if_neg (show ¬ nI 7 = 4 by decide), if_neg (show ¬ nI 7 = 5 by decide), if_neg (show ¬ nI 7 = 6 by decide), if_pos (show nI 7 = 7 from rfl), b31_110, r_setOf, rL_some, b31_118, r_bitCount, rI_some, b31_121, stB, if_neg (by decide), if_neg (by decide), if_neg (by decide), if_pos rfl, q.1, q.2.2.2.1, ct64 (n := n) (sub_andl (sub_orE c.2.2.2.2.2.2.2 _ n (Nat.le_refl n))) h40]; rfl
theorem cn_m (m : HM h n sl P Q K E) (x : Ix h n sl ly ev per) {s : Tk} {g : Int64} (q : TM h g s.t s) {j : Nat} (hj : j ≤ 8) : Ev 114 4 [some (.ref 27), some (.int (nI j))] [] h = some (some (.int (cnB h n sl ly s g j)), h) := by
  have h40 := m.2.2.2.2.2.2.1
  obtain ⟨x1, x2, x3, x4, x5, x6, x7, x8, x9, x10, x11, x12, x13, x14, x15, x16, x17, x18, x19, x20⟩ := x
  rw [b114_4]
  rcases j8 hj with rfl | rfl | rfl | rfl | rfl | rfl | rfl | rfl | rfl
  · rw [if_pos (show nI 0 = 0 from rfl), b114_56, m.1]; rfl
  · rw [if_neg (show ¬ nI 1 = 0 by decide), if_pos (show nI 1 = 1 from rfl), b114_61, m.2.1]; rfl
  · rw [if_neg (show ¬ nI 2 = 0 by decide), if_neg (show ¬ nI 2 = 1 by decide), if_pos (show nI 2 = 2 from rfl), b114_66, x4]; rfl
  · rw [if_neg (show ¬ nI 3 = 0 by decide), if_neg (show ¬ nI 3 = 1 by decide), if_neg (show ¬ nI 3 = 2 by decide), if_pos (show nI 3 = 3 from rfl), b114_71, r_manyOf, rI_some, b114_78, x15]; rfl
  · rw [if_neg (show ¬ nI 4 = 0 by decide), if_neg (show ¬ nI 4 = 1 by decide), if_neg (show ¬ nI 4 = 2 by decide), if_neg (show ¬ nI 4 = 3 by decide), if_pos (show nI 4 = 4 from rfl), b114_79, r_manyOf, rI_some, b114_86, x16]; rfl
  · rw [if_neg (show ¬ nI 5 = 0 by decide), if_neg (show ¬ nI 5 = 1 by decide), if_neg (show ¬ nI 5 = 2 by decide), if_neg (show ¬ nI 5 = 3 by decide), if_neg (show ¬ nI 5 = 4 by decide), if_pos (show nI 5 = 5 from rfl), b114_87, q.2.2.2.2.2.1]; rfl
  · rw [if_neg (show ¬ nI 6 = 0 by decide), if_neg (show ¬ nI 6 = 1 by decide), if_neg (show ¬ nI 6 = 2 by decide), if_neg (show ¬ nI 6 = 3 by decide), if_neg (show ¬ nI 6 = 4 by decide), if_neg (show ¬ nI 6 = 5 by decide), if_pos (show nI 6 = 6 from rfl), b114_92, q.2.2.2.2.1]; rfl
  · rw [if_neg (show ¬ nI 7 = 0 by decide), if_neg (show ¬ nI 7 = 1 by decide), if_neg (show ¬ nI 7 = 2 by decide), if_neg (show ¬ nI 7 = 3 by decide), if_neg (show ¬ nI 7 = 4 by decide), if_neg (show ¬ nI 7 = 5 by decide), if_neg (show ¬ nI 7 = 6 by decide), if_pos (show nI 7 = 7 from rfl), b114_97, r_setBy, rL_some, b114_102, r_manyOf, rI_some, b114_105, stB, if_neg (by decide), if_neg (by decide), if_neg (by decide), if_pos rfl, q.1, q.2.2.2.1]; rfl
  · rw [if_neg (show ¬ nI 8 = 0 by decide), if_neg (show ¬ nI 8 = 1 by decide), if_neg (show ¬ nI 8 = 2 by decide), if_neg (show ¬ nI 8 = 3 by decide), if_neg (show ¬ nI 8 = 4 by decide), if_neg (show ¬ nI 8 = 5 by decide), if_neg (show ¬ nI 8 = 6 by decide), if_neg (show ¬ nI 8 = 7 by decide), if_pos (show nI 8 = 8 from rfl), b114_106, x19]; rfl
theorem cnB_sx {R : List Nat} (a : Sx R h h') (hR : 0 ∉ R) (s : Tk) (g : Int64) (j : Nat) : cnB h' n sl ly s g j = cnB h n sl ly s g j := by
  unfold cnB
  rw [(a 15 0 hR).2, (a 15 1 hR).2, (a 0 7 hR).1]
/-- the model's count: it talks, and tells -/
theorem r_mcount (m : HM h n sl P Q K E) (x : Ix h n sl ly ev per) {j : Nat} (hj : j ≤ 8) : ∃ h1, Rt 114 [.ref 27, .int (nI j)] h = some (some (.int (cnB h n sl ly (Tb n P Q K E per h) (gB n E h) j)), h1) ∧ Sx [9] h h1 ∧ TM h1 (gB n E h) (Tb n P Q K E per h).t (Tb n P Q K E per h) := by
  obtain ⟨h1, f1, f2, f3⟩ := tk_m m x
  refine ⟨h1, ?_, f2, f3⟩
  show Ev 114 0 [some (.ref 27), some (.int (nI j))] [] h = _
  rw [b114_0, f1, rV_some, cn_m (hm_sx m f2 (by decide)) (ix_sx f2 (by decide) x) f3 hj, cnB_sx f2 (by decide)]
theorem p_count (y : Int32) : Pr 29 114 [.int y] := by
  intro h i
  have i' := i
  obtain ⟨n, sl, ly, ev, per, P, Q, K, E, c, m, x⟩ := i'
  rcases rng_in y (k := 8) (by omega) with ⟨j, hj, rfl⟩ | hy
  · have hle : nI j ≤ (8 : Int32) := by rw [show (8 : Int32) = nI 8 from rfl, le_nI (by omega) (by omega)]; exact hj
    have hge : ¬ nI j < 0 := by rw [lt0_nI (by omega)]; exact fun q => q
    by_cases hm : j = 5 ∨ j = 6 ∨ j = 7
    · obtain ⟨h1, e1, e2, e3⟩ := tk_c c x
      have m1 := hm_sx m e2 (by decide)
      have x1 := ix_sx e2 (by decide) x
      obtain ⟨h2, f1, f2, f3⟩ := r_mcount m1 x1 hj
      have tb := tb_sx (n := n) (P := P) (Q := Q) (K := K) (E := E) (per := per) e2 (by decide)
      rw [tb.1, tb.2] at f1
      refine pr_of h i (h1 := h1) (h2 := h2) ?_ e2 (by decide) f1 f2 (by decide)
      show Ev 29 0 [some (.ref 0), some (.int (nI j))] [] h = _
      rw [b29_0, if_neg hge, b29_4, if_pos hle, b29_13, if_neg (show ¬ nI j < (5 : Int32) from by rw [show (5 : Int32) = nI 5 from rfl, lt_nI (by omega) (by omega)]; omega), b29_18, if_neg (show ¬ (7 : Int32) < nI j from by rw [show (7 : Int32) = nI 7 from rfl, lt_nI (by omega) (by omega)]; omega), b29_24, e1, rV_some, b29_35, cn_c1 (ly := ly) (hc_sx c e2 (by decide)) (h' := h) e3 hm, rI_some, b29_40]
      rfl
    · obtain ⟨h2, f1, f2, f3⟩ := r_mcount m x hj
      refine pr_of h i (h1 := h) (h2 := h2) ?_ (sx_refl [] _) (by decide) f1 f2 (by decide)
      show Ev 29 0 [some (.ref 0), some (.int (nI j))] [] h = _
      rw [b29_0, if_neg hge, b29_4, if_pos hle, b29_13]
      by_cases h5 : j < 5
      · rw [if_pos (show nI j < (5 : Int32) from by rw [show (5 : Int32) = nI 5 from rfl, lt_nI (by omega) (by omega)]; omega), b29_35, cn_c0 c x (Tb n P Q K E per h) (gB n E h) (by omega), rI_some, b29_40]
      · rw [if_neg (show ¬ nI j < (5 : Int32) from by rw [show (5 : Int32) = nI 5 from rfl, lt_nI (by omega) (by omega)]; omega), b29_18, if_pos (show (7 : Int32) < nI j from by rw [show (7 : Int32) = nI 7 from rfl, lt_nI (by omega) (by omega)]; omega), b29_35, cn_c0 c x (Tb n P Q K E per h) (gB n E h) (by omega), rI_some, b29_40]
  · obtain ⟨h2, f1, f2, f3⟩ := tk_m m x
    refine pr_of h i (r := some (.int (-2))) (h1 := h) (h2 := h2) ?_ (sx_refl [] _) (by decide) ?_ f2 (by decide)
    · show Ev 29 0 [some (.ref 0), some (.int y)] [] h = _
      rw [b29_0]
      by_cases h0 : y < 0
      · rw [if_pos h0, b29_10]
      · rw [if_neg h0, b29_4, if_neg (show ¬ y ≤ (8 : Int32) from c2_no hy h0), b29_10]
    · show Ev 114 0 [some (.ref 27), some (.int y)] [] h = _
      have q : ∀ k, k ≤ 8 → ¬ y = nI k := by
        intro k hk hq
        subst hq
        rcases hy with hy | hy
        · rw [lt0_nI (by omega)] at hy; exact hy
        · rw [lt_nI (by omega) (by omega)] at hy; omega
      rw [b114_0, f1, rV_some, b114_4, if_neg (show ¬ y = (0 : Int32) from q 0 (by omega)), if_neg (show ¬ y = (1 : Int32) from q 1 (by omega)), if_neg (show ¬ y = (2 : Int32) from q 2 (by omega)), if_neg (show ¬ y = (3 : Int32) from q 3 (by omega)), if_neg (show ¬ y = (4 : Int32) from q 4 (by omega)), if_neg (show ¬ y = (5 : Int32) from q 5 (by omega)), if_neg (show ¬ y = (6 : Int32) from q 6 (by omega)), if_neg (show ¬ y = (7 : Int32) from q 7 (by omega)), if_neg (show ¬ y = (8 : Int32) from q 8 (by omega)), b114_111]
theorem sub_last {s : Int64} {k : Nat} (hk : k < 64) (hs : sub s (k + 1)) : sub (s &&& (ob k ^^^ (-1))) k := fun j hj hb => by
  rw [bt_and, bt_not _ hj, bt_ob hk, Bool.and_eq_true] at hb
  have := hs j hj hb.1
  have h2 : ¬ j = k := by
    intro q; rw [decide_eq_true q] at hb; simp at hb
  omega
theorem p_back : Pr 1 63 [] := by
  intro h i
  have i' := i
  obtain ⟨n, sl, ly, ev, per, P, Q, K, E, c, m, x⟩ := i'
  have h40 := c.2.2.2.2.2.2.2.1
  have hsl := c.2.2.1
  by_cases hn : sl < n
  · obtain ⟨k, rfl⟩ : ∃ k, n = k + 1 := ⟨n - 1, by omega⟩
    obtain ⟨x1, x2, x3, x4, x5, x6, x7, x8, x9, x10, x11, x12, x13, x14, x15, x16, x17, x18, x19, x20⟩ := x
    have e1 : nI (k + 1) - 1 = nI k := by rw [show (1 : Int32) = nI 1 from rfl, pk_sub (by omega)]; rfl
    obtain ⟨v, ev'⟩ : ∃ v, v = gJ h 15 0 &&& (ob k ^^^ (-1)) := ⟨_, rfl⟩
    obtain ⟨u, eu⟩ : ∃ u, u = gJ h 15 1 &&& (ob k ^^^ (-1)) := ⟨_, rfl⟩
    have hv : sub v k := by rw [ev']; exact sub_last (by omega) x17
    have hu : sub u k := by rw [eu]; exact sub_last (by omega) x18
    obtain ⟨h1, eh1⟩ : ∃ h1, h1 = sJ (sJ (sI h 1 6 (nI k)) 15 0 v) 15 1 u := ⟨_, rfl⟩
    refine ⟨some (.int (nI k)), h1, sJ (sJ (sI h1 27 5 (nI k)) 27 16 v) 27 17 u, ?_, ?_, k, sl, ly, ev, per, P, Q, K, E, ?_, ?_, ?_⟩
    · have d1 : Rt 129 [.ref 1] h = some (none, sI h 1 6 (nI k)) := by
        show Ev 129 0 [some (.ref 1)] [] h = _
        rw [b129_0, c.1, c.2.1, if_neg (by rw [le_nI (by omega) (by omega)]; omega), b129_11, b129_21, c.1, e1]
      have d2 : Rt 117 [.ref 15, .int (nI k)] (sI h 1 6 (nI k)) = some (none, h1) := by
        show Ev 117 0 [some (.ref 15), some (.int (nI k))] [] (sI h 1 6 (nI k)) = _
        have q1 : gJ (sI h 1 6 (nI k)) 15 0 = gJ h 15 0 := by simp (disch := omega) only [fI_sJ, fJ_sI, fI_ne, fJ_ne, gI_sI, gJ_sJ, Nat.reduceEqDiff, eq_self, and_true, true_and, and_false, false_and, and_self, if_true, if_false, reduceIte, Nat.succ_ne_zero]
        have q2 : gJ (sJ (sI h 1 6 (nI k)) 15 0 v) 15 1 = gJ h 15 1 := by simp (disch := omega) only [fI_sJ, fJ_sI, fI_ne, fJ_ne, gI_sI, gJ_sJ, Nat.reduceEqDiff, eq_self, and_true, true_and, and_false, false_and, and_self, if_true, if_false, reduceIte, Nat.succ_ne_zero]
        rw [b117_0, r_bit (by omega), rL_some, q1, b117_9, ← ev', r_bit (by omega), rL_some, q2, b117_26, ← eu, eh1]
      have q3 : gI h1 1 6 = nI k := by rw [eh1]; simp (disch := omega) only [fI_sJ, fJ_sI, fI_ne, fJ_ne, gI_sI, gJ_sJ, Nat.reduceEqDiff, eq_self, and_true, true_and, and_false, false_and, and_self, if_true, if_false, reduceIte, Nat.succ_ne_zero]
      have q4 : gI (sI h 1 6 (nI k)) 1 6 = nI k := by simp (disch := omega) only [fI_sJ, fJ_sI, fI_ne, fJ_ne, gI_sI, gJ_sJ, Nat.reduceEqDiff, eq_self, and_true, true_and, and_false, false_and, and_self, if_true, if_false, reduceIte, Nat.succ_ne_zero]
      show Ev 1 0 [some (.ref 0)] [] h = _
      rw [b1_0, c.1, c.2.1, if_pos (by rw [lt_nI (by omega) (by omega)]; omega), b1_20, d1, rV_some, b1_27, q4, d2, rV_some, b1_41, q3]
    · show Ev 63 0 [some (.ref 27)] [] h1 = _
      have q1 : gI h1 27 5 = nI (k + 1) := by rw [eh1]; simp (disch := omega) only [fI_sJ, fJ_sI, fI_ne, fJ_ne, gI_sI, gJ_sJ, Nat.reduceEqDiff, eq_self, and_true, true_and, and_false, false_and, and_self, if_true, if_false, reduceIte, Nat.succ_ne_zero, m.1]
      have q2 : gI h1 27 10 = nI sl := by rw [eh1]; simp (disch := omega) only [fI_sJ, fJ_sI, fI_ne, fJ_ne, gI_sI, gJ_sJ, Nat.reduceEqDiff, eq_self, and_true, true_and, and_false, false_and, and_self, if_true, if_false, reduceIte, Nat.succ_ne_zero, m.2.1]
      have q3 : gJ h1 27 16 = gJ h 15 0 := by rw [eh1]; simp (disch := omega) only [fI_sJ, fJ_sI, fI_ne, fJ_ne, gI_sI, gJ_sJ, Nat.reduceEqDiff, eq_self, and_true, true_and, and_false, false_and, and_self, if_true, if_false, reduceIte, Nat.succ_ne_zero, x15]
      have q4 : gJ h1 27 17 = gJ h 15 1 := by rw [eh1]; simp (disch := omega) only [fI_sJ, fJ_sI, fI_ne, fJ_ne, gI_sI, gJ_sJ, Nat.reduceEqDiff, eq_self, and_true, true_and, and_false, false_and, and_self, if_true, if_false, reduceIte, Nat.succ_ne_zero, x16]
      rw [b63_0, q1, q2, if_pos (by rw [eq_nI (by omega) (by omega)]; omega), b63_14, q1, e1]
      simp (disch := omega) only [fI_sJ, fJ_sI, fI_ne, fJ_ne, gI_sI, gJ_sJ, Nat.reduceEqDiff, eq_self, and_true, true_and, and_false, false_and, and_self, if_true, if_false, reduceIte, Nat.succ_ne_zero, q3, q4, sh_ob']
      rw [← ev', ← eu]
    · rw [eh1]
      obtain ⟨w1, w2, w3, w4, w5, w6, w7, w8⟩ := c
      refine ⟨?_, ?_, by omega, ?_, ?_, ?_, ?_, ⟨by omega, fun c hc => w8.2 c (by omega)⟩⟩ <;> simp (disch := omega) only [fI_sJ, fJ_sI, fI_ne, fJ_ne, gI_sI, gJ_sJ, Nat.reduceEqDiff, eq_self, and_true, true_and, and_false, false_and, and_self, if_true, if_false, reduceIte, Nat.succ_ne_zero, w1, w2, w4, w5, w6, w7]
    · rw [eh1]
      obtain ⟨w1, w2, w3, w4, w5, w6, w8⟩ := m
      refine ⟨?_, ?_, by omega, ?_, ?_, ?_, ⟨by omega, fun c hc => w8.2 c (by omega)⟩⟩ <;> simp (disch := omega) only [fI_sJ, fJ_sI, fI_ne, fJ_ne, gI_sI, gJ_sJ, Nat.reduceEqDiff, eq_self, and_true, true_and, and_false, false_and, and_self, if_true, if_false, reduceIte, Nat.succ_ne_zero, w1, w2, w4, w5, w6]
    · rw [eh1]
      refine ⟨?_, ?_, ?_, ?_, x5, ?_, ?_, x8, x9, ?_, ?_, x12, x13, ?_, ?_, ?_, ?_, ?_, ?_, fun s hs => xs_of (x20 s hs) (by simp (disch := omega) only [fI_sJ, fJ_sI, fI_ne, fJ_ne, gI_sI, gJ_sJ, Nat.reduceEqDiff, eq_self, and_true, true_and, and_false, false_and, and_self, if_true, if_false, reduceIte, Nat.succ_ne_zero]) (by simp (disch := omega) only [fI_sJ, fJ_sI, fI_ne, fJ_ne, gI_sI, gJ_sJ, Nat.reduceEqDiff, eq_self, and_true, true_and, and_false, false_and, and_self, if_true, if_false, reduceIte, Nat.succ_ne_zero]) (by simp (disch := omega) only [fI_sJ, fJ_sI, fI_ne, fJ_ne, gI_sI, gJ_sJ, Nat.reduceEqDiff, eq_self, and_true, true_and, and_false, false_and, and_self, if_true, if_false, reduceIte, Nat.succ_ne_zero]) (by simp (disch := omega) only [fI_sJ, fJ_sI, fI_ne, fJ_ne, gI_sI, gJ_sJ, Nat.reduceEqDiff, eq_self, and_true, true_and, and_false, false_and, and_self, if_true, if_false, reduceIte, Nat.succ_ne_zero]) (by simp (disch := omega) only [fI_sJ, fJ_sI, fI_ne, fJ_ne, gI_sI, gJ_sJ, Nat.reduceEqDiff, eq_self, and_true, true_and, and_false, false_and, and_self, if_true, if_false, reduceIte, Nat.succ_ne_zero])⟩ <;> simp (disch := omega) only [fI_sJ, fJ_sI, fI_ne, fJ_ne, gI_sI, gJ_sJ, Nat.reduceEqDiff, eq_self, and_true, true_and, and_false, false_and, and_self, if_true, if_false, reduceIte, Nat.succ_ne_zero, x1, x2, x3, x4, x6, x7, x10, x11, x14, x15, x16, x19, hv, hu]
  · refine pr_of h i (r := some (.int (-3))) (h1 := h) (h2 := h) ?_ (sx_refl [] _) (by decide) ?_ (sx_refl [] _) (by decide)
    · show Ev 1 0 [some (.ref 0)] [] h = _
      rw [b1_0, c.1, c.2.1, if_neg (by rw [lt_nI (by omega) (by omega)]; omega), b1_17]
    · show Ev 63 0 [some (.ref 27)] [] h = _
      rw [b63_0, m.1, m.2.1, if_neg (by rw [eq_nI (by omega) (by omega)]; omega), b63_11]
end CJ
