/-! ADD: the model; both. -/
section AE
variable {n sl ly ev per : Nat} {P Q K : Nat → Int32} {E : Nat → Int64} {h h' h1 h2 : mH}
theorem m1_lt {n : Nat} (hn : n ≤ 40) (x : Int32) : (nI n - 1 < x) = (nI n ≤ x) := by rw [← w64_lt, gt_m1 hn]
theorem ino_y (h40 : n ≤ 40) (e : gI h 27 5 = nI n) {x : Int32} (hx : okp x n) : Rt 44 [.long x.toInt64, .long (-1), .long (gI h 27 5 - 1).toInt64] h = some (some (.int 1), h) := by
  rw [e, r_inI (a := -1) (b := nI n - 1) (by decide) rfl, if_neg]
  rcases hx with rfl | ⟨p, hp, rfl⟩
  · rintro (q | q)
    · exact absurd q (by decide)
    · rw [m1_lt h40] at q
      have q2 : nI n < 0 := Int32.lt_of_le_of_lt q (by decide)
      rw [lt0_nI (by omega)] at q2; exact q2
  · rintro (q | q)
    · have q2 : nI p < 0 := Int32.lt_of_lt_of_le q (by decide)
      rw [lt0_nI (by omega)] at q2; exact q2
    · rw [m1_lt h40, le_nI (by omega) (by omega)] at q; omega
theorem neg_lt {x : Int32} (h : x < 0) (h1 : ¬ x = -1) : x < -1 := by
  rw [Int32.lt_iff_toInt_lt] at h ⊢
  have h2 : ¬ x.toInt = (-1 : Int32).toInt := fun q => h1 (Int32.toInt_inj.mp q)
  have h3 : (-1 : Int32).toInt = -1 := by decide
  have h4 : (0 : Int32).toInt = 0 := by decide
  omega
theorem ino_n (h40 : n ≤ 40) (e : gI h 27 5 = nI n) {x : Int32} (hx : ¬ okp x n) : Rt 44 [.long x.toInt64, .long (-1), .long (gI h 27 5 - 1).toInt64] h = some (some (.int 0), h) := by
  rw [e, r_inI (a := -1) (b := nI n - 1) (by decide) rfl, if_pos]
  rcases int_cases x with h1 | ⟨p, hp, rfl⟩
  · exact Or.inl (neg_lt h1 (fun q => hx (Or.inl q)))
  · refine Or.inr ?_
    rw [m1_lt h40, le_nI (by omega) (by omega)]
    by_cases hpn : p < n
    · exact absurd (Or.inr ⟨p, hpn, rfl⟩) hx
    · omega
theorem inT_y {t : Int32} (ot : okT t) (h : mH) : Rt 44 [.long t.toInt64, .long 0, .long 1048575] h = some (some (.int 1), h) := by
  rw [r_inI (a := 0) (b := 1048575) (by decide) (by decide), if_neg]
  rintro (q | q)
  · exact absurd q (Int32.not_lt.mpr ot.1)
  · exact absurd q (Int32.not_lt.mpr ot.2)
theorem inT_n {t : Int32} (ot : ¬ okT t) (h : mH) : Rt 44 [.long t.toInt64, .long 0, .long 1048575] h = some (some (.int 0), h) := by
  rw [r_inI (a := 0) (b := 1048575) (by decide) (by decide), if_pos]
  by_cases h1 : t < 0
  · exact Or.inl h1
  · exact Or.inr (Int32.not_le.mp (fun q => ot ⟨Int32.not_lt.mp h1, q⟩))
theorem new_y {x y t : Int32} (h40 : n ≤ 40) (e : gI h 27 5 = nI n) (o : okA n x y) (ot : okT t) : Rt 61 [.ref 27, .int x, .int y, .int t] h = some (some (.int 1), h) := by
  obtain ⟨o1, o2, o3, o4⟩ := o
  show Ev 61 0 [some (.ref 27), some (.int x), some (.int y), some (.int t), none] [] h = _
  rw [b61_0, ino_y h40 e o1, rI_some, b61_15, if_neg (by decide), b61_18, ino_y h40 e o2, rI_some, b61_33, if_neg (by decide), b61_36]
  have tail : Ev 61 54 [some (.ref 27), some (.int x), some (.int y), some (.int t), none] [] h = some (some (.int 1), h) := by
    rw [b61_54, b61_59, if_neg (by decide), b61_66, inT_y ot, rI_some, b61_75, if_neg (by decide), b61_78, b61_83, if_pos (Or.inr rfl)]
  by_cases hx : x = -1
  · rw [if_neg (fun q => q hx), b61_41, if_neg (fun q => q (o3 hx)), b61_46, tail]
  · rw [if_pos hx, b61_49, if_neg (fun q => hx (o4 q)), tail]
theorem new_n {x y t : Int32} (h40 : n ≤ 40) (e : gI h 27 5 = nI n) (o : ¬ (okA n x y ∧ okT t)) : Rt 61 [.ref 27, .int x, .int y, .int t] h = some (some (.int 0), h) := by
  show Ev 61 0 [some (.ref 27), some (.int x), some (.int y), some (.int t), none] [] h = _
  have tail0 : Ev 61 58 [some (.ref 27), some (.int x), some (.int y), some (.int t), none] [] h = some (some (.int 0), h) := by
    rw [b61_58, b61_59, if_pos rfl, b61_82, b61_83, if_pos (Or.inl rfl)]
  have tail1 : ¬ okT t → Ev 61 54 [some (.ref 27), some (.int x), some (.int y), some (.int t), none] [] h = some (some (.int 0), h) := fun ot => by
    rw [b61_54, b61_59, if_neg (by decide), b61_66, inT_n ot, rI_some, b61_75, if_pos rfl, b61_82, b61_83, if_pos (Or.inl rfl)]
  rw [b61_0]
  by_cases o1 : okp x n
  · rw [ino_y h40 e o1, rI_some, b61_15, if_neg (by decide), b61_18]
    by_cases o2 : okp y n
    · rw [ino_y h40 e o2, rI_some, b61_33, if_neg (by decide), b61_36]
      by_cases hx : x = -1
      · rw [if_neg (fun q => q hx), b61_41]
        by_cases hy : y = -1
        · rw [if_neg (fun q => q hy), b61_46]
          exact tail1 (fun ot => o ⟨⟨o1, o2, fun _ => hy, fun _ => hx⟩, ot⟩)
        · rw [if_pos hy, tail0]
      · rw [if_pos hx, b61_49]
        by_cases hxy : x = y
        · rw [if_pos hxy, tail0]
        · rw [if_neg hxy]
          exact tail1 (fun ot => o ⟨⟨o1, o2, fun q => absurd q hx, fun q => absurd q hxy⟩, ot⟩)
    · rw [ino_n h40 e o2, rI_some, b61_33, if_pos rfl, tail0]
  · rw [ino_n h40 e o1, rI_some, b61_15, if_pos rfl, tail0]
theorem mx_gr (a b : Int32) : (if b < a then a else b) = mx a b := by
  unfold mx
  by_cases h1 : b < a
  · rw [if_pos h1, if_neg (fun q => Int32.lt_irrefl (Int32.lt_trans h1 q))]
  · rw [if_neg h1]
    by_cases h2 : a < b
    · rw [if_pos h2]
    · rw [if_neg h2]; exact Int32.le_antisymm (Int32.not_lt.mp h2) (Int32.not_lt.mp h1)
theorem madd_n {s : Hst} (w : HMt h sl s) {x y t : Int32} (o : ¬ (okA s.1 x y ∧ okT t)) : Rt 62 [.ref 27, .int x, .int y, .int t] h = some (some (.int (-2)), h) := by
  show Ev 62 0 [some (.ref 27), some (.int x), some (.int y), some (.int t)] [] h = _
  rw [b62_0, new_n w.1.2.2.2.2.2.2.1 w.1.1 o, rI_some, b62_7, if_neg (by decide), b62_10]
theorem madd_f {s : Hst} (w : HMt h sl s) {x y t : Int32} (o : okA s.1 x y) (ot : okT t) (hn : s.1 = 40) : Rt 62 [.ref 27, .int x, .int y, .int t] h = some (some (.int (-4)), h) := by
  show Ev 62 0 [some (.ref 27), some (.int x), some (.int y), some (.int t)] [] h = _
  rw [b62_0, new_y w.1.2.2.2.2.2.2.1 w.1.1 o ot, rI_some, b62_7, if_pos (by decide), b62_13, w.1.1, hn, if_neg (by decide), b62_22]
theorem madd_y {s : Hst} (w : HMt h sl s) (hn : s.1 < 40) {x y t : Int32} (o : okA s.1 x y) (ot : okT t) : ∃ h', Rt 62 [.ref 27, .int x, .int y, .int t] h = some (some (.int (nI (s.1 + 1))), h') ∧ HMt h' sl (ap s x y t) ∧ Zm h h' := by
  obtain ⟨n, P, Q, K, E, T⟩ := s
  obtain ⟨⟨w1, w2, w3, w4, w5, w6, w8⟩, w9⟩ := w
  simp only at w1 w2 w3 w4 w5 w6 w8 w9 hn o
  obtain ⟨h1, e1⟩ : ∃ h1, h1 = sI (sI (sI h 32 n x) 33 n y) 35 n t := ⟨_, rfl⟩
  obtain ⟨h2, e2⟩ : ∃ h2, h2 = sI h1 34 n (1 + mx (rk K x) (rk K y)) := ⟨_, rfl⟩
  have q1 : gI h1 27 5 = nI n := by rw [e1]; simp (disch := omega) only [fI_sJ, fJ_sI, fI_ne, fJ_ne, gI_sI, gJ_sJ, Nat.reduceEqDiff, eq_self, and_true, true_and, and_false, false_and, and_self, if_true, if_false, reduceIte, Nat.succ_ne_zero, w1]
  have q1a : gI (sI h 32 n x) 27 5 = nI n := by simp (disch := omega) only [fI_sJ, fJ_sI, fI_ne, fJ_ne, gI_sI, gJ_sJ, Nat.reduceEqDiff, eq_self, and_true, true_and, and_false, false_and, and_self, if_true, if_false, reduceIte, Nat.succ_ne_zero, w1]
  have q1b : gI (sI (sI h 32 n x) 33 n y) 27 5 = nI n := by simp (disch := omega) only [fI_sJ, fJ_sI, fI_ne, fJ_ne, gI_sI, gJ_sJ, Nat.reduceEqDiff, eq_self, and_true, true_and, and_false, false_and, and_self, if_true, if_false, reduceIte, Nat.succ_ne_zero, w1]
  have q2 : gI h2 27 5 = nI n := by rw [e2]; simp (disch := omega) only [fI_sJ, fJ_sI, fI_ne, fJ_ne, gI_sI, gJ_sJ, Nat.reduceEqDiff, eq_self, and_true, true_and, and_false, false_and, and_self, if_true, if_false, reduceIte, Nat.succ_ne_zero, q1]
  have q5 : gI h1 34 = K := by rw [e1]; simp (disch := omega) only [fI_sJ, fJ_sI, fI_ne, fJ_ne, gI_sI, gJ_sJ, Nat.reduceEqDiff, eq_self, and_true, true_and, and_false, false_and, and_self, if_true, if_false, reduceIte, Nat.succ_ne_zero, w6]
  have gd : 0 ≤ nI n ∧ (nI n).toNatClampNeg < 40 := of_eq_true (gd_nI (a := n) (N := 40) (by omega) (by omega))
  refine ⟨sI h2 27 5 (nI (n + 1)), ?_, ⟨⟨?_, ?_, by show sl ≤ n + 1; omega, ?_, ?_, ?_, wf_ap w8 hn o⟩, ?_⟩, ?_⟩
  · show Ev 62 0 [some (.ref 27), some (.int x), some (.int y), some (.int t)] [] h = _
    have fin : ∀ v, v = 1 + mx (rk K x) (rk K y) → Ev 62 98 [some (.ref 27), some (.int x), some (.int y), some (.int t)] [.int v, .int (nI n), .ref 34] h1 = some (some (.int (nI (n + 1))), sI h2 27 5 (nI (n + 1))) := by
      intro v hv
      have q3 : gI (sI h2 27 5 (nI (n + 1))) 27 5 = nI (n + 1) := by simp (disch := omega) only [fI_sJ, fJ_sI, fI_ne, fJ_ne, gI_sI, gJ_sJ, Nat.reduceEqDiff, eq_self, and_true, true_and, and_false, false_and, and_self, if_true, if_false, reduceIte, Nat.succ_ne_zero]
      rw [hv, b62_98, if_pos gd, cl_nI (by omega), ← e2, b62_99, q2, nI_1, q3]
    rw [b62_0, new_y (by omega) w1 o ot, rI_some, b62_7, if_pos (by decide), b62_13, w1, if_pos (show ¬ nI n = 40 from by rw [show (40 : Int32) = nI 40 from rfl, eq_nI (by omega) (by omega)]; omega), b62_25, w1, if_pos gd, cl_nI (by omega), b62_35, q1a, if_pos gd, cl_nI (by omega), b62_45, q1b, if_pos gd, cl_nI (by omega), ← e1, b62_55, q1]
    by_cases hx : x = -1
    · rw [if_neg (fun q => q hx), b62_68]
      exact fin 1 (by rw [hx, o.2.2.1 hx]; simp [rk, mx])
    · obtain ⟨a, ha, rfl⟩ := o.1.resolve_left hx
      have gda : 0 ≤ nI a ∧ (nI a).toNatClampNeg < 40 := of_eq_true (gd_nI (a := a) (N := 40) (by omega) (by omega))
      have ra : rk K (nI a) = K a := by rw [rk, if_neg hx, cl_nI (by omega)]
      rw [if_pos hx, b62_72, if_pos gda, cl_nI (by omega), q5, b62_79]
      by_cases hy : y = -1
      · have ry : rk K y = 0 := by rw [rk, if_pos hy]
        rw [if_neg (fun q => q hy), b62_84, b62_94, r_greater, rI_some, b62_97]
        exact fin _ (by rw [mx_gr, ra, ry])
      · obtain ⟨b, hb, rfl⟩ := o.2.1.resolve_left hy
        have gdb : 0 ≤ nI b ∧ (nI b).toNatClampNeg < 40 := of_eq_true (gd_nI (a := b) (N := 40) (by omega) (by omega))
        have ry : rk K (nI b) = K b := by rw [rk, if_neg hy, cl_nI (by omega)]
        rw [if_pos hy, b62_88, if_pos gdb, cl_nI (by omega), q5, b62_94, r_greater, rI_some, b62_97]
        exact fin _ (by rw [mx_gr, ra, ry])
  · simp (disch := omega) only [fI_sJ, fJ_sI, fI_ne, fJ_ne, gI_sI, gJ_sJ, Nat.reduceEqDiff, eq_self, and_true, true_and, and_false, false_and, and_self, if_true, if_false, reduceIte, Nat.succ_ne_zero]; rfl
  · rw [e2, e1]; simp (disch := omega) only [fI_sJ, fJ_sI, fI_ne, fJ_ne, gI_sI, gJ_sJ, Nat.reduceEqDiff, eq_self, and_true, true_and, and_false, false_and, and_self, if_true, if_false, reduceIte, Nat.succ_ne_zero, w2]
  · rw [e2, e1]; simp (disch := omega) only [fI_sJ, fI_ne, up_sI, w4]; rfl
  · rw [e2, e1]; simp (disch := omega) only [fI_sJ, fI_ne, up_sI, w5]; rfl
  · rw [fI_ne (by omega), e2, up_sI, q5]; rfl
  · rw [e2, e1]; simp (disch := omega) only [fI_sJ, fI_ne, up_sI, w9]; rfl
  · intro k j hk
    rw [e2, e1]
    rw [gI_else (by omega), gI_else (by omega), gI_else (by omega), gI_else (by omega), gI_else (by omega), gJ_sI, gJ_sI, gJ_sI, gJ_sI, gJ_sI]
    exact ⟨rfl, rfl⟩
theorem hct_zm {s : Hst} (w : HCt h sl s) (z : Zm h h') : HCt h' sl s := by
  obtain ⟨⟨w1, w2, w3, w4, w5, w6, w7, w8⟩, w9⟩ := w
  have f : ∀ k, k < 27 → gI h' k = gI h k := fun k hk => funext fun j => (z k j (Or.inl hk)).1
  have g : ∀ k, k < 27 → gJ h' k = gJ h k := fun k hk => funext fun j => (z k j (Or.inl hk)).2
  refine ⟨⟨?_, ?_, w3, ?_, ?_, ?_, ?_, w8⟩, ?_⟩
  · rw [f 1 (by omega)]; exact w1
  · rw [f 1 (by omega)]; exact w2
  · rw [f 2 (by omega)]; exact w4
  · rw [f 3 (by omega)]; exact w5
  · rw [f 5 (by omega)]; exact w6
  · rw [g 6 (by omega)]; exact w7
  · rw [f 4 (by omega)]; exact w9
theorem hmt_za {s : Hst} (w : HMt h sl s) (z : Za h h') : HMt h' sl s := by
  obtain ⟨⟨w1, w2, w3, w4, w5, w6, w8⟩, w9⟩ := w
  have f : ∀ k, 6 < k → gI h' k = gI h k := fun k hk => funext fun j => (z k j (Or.inr (Or.inl hk))).1
  refine ⟨⟨?_, ?_, w3, ?_, ?_, ?_, w8⟩, ?_⟩
  · rw [f 27 (by omega)]; exact w1
  · rw [f 27 (by omega)]; exact w2
  · rw [f 32 (by omega)]; exact w4
  · rw [f 33 (by omega)]; exact w5
  · rw [f 34 (by omega)]; exact w6
  · rw [f 35 (by omega)]; exact w9
theorem sub_up {s : Int64} {n m : Nat} (h : sub s n) (hn : n ≤ m) : sub s m := fun j hj hb => by have := h j hj hb; omega
/-- after adding on both sides -/
theorem inv_add {s : Hst} (x : Ix h n sl ly ev per) (a : Za h h1) (b : Zm h1 h2) (c : HCt h1 sl s) (m : HMt h2 sl s) (hn : n ≤ s.1) : Inv h2 := by
  have c2 := hct_zm c b
  have f : ∀ k j, (k < 1 ∨ (6 < k ∧ k < 27) ∨ (k = 1 ∧ ¬ j = 6) ∨ (k = 27 ∧ ¬ j = 5) ∨ (27 < k ∧ k < 32) ∨ 35 < k) → gI h2 k j = gI h k j ∧ gJ h2 k j = gJ h k j := by
    intro k j hk
    have p := a k j (by omega)
    have q := b k j (by omega)
    exact ⟨q.1.trans p.1, q.2.trans p.2⟩
  have F : ∀ k, (k < 1 ∨ (6 < k ∧ k < 27) ∨ (27 < k ∧ k < 32) ∨ 35 < k) → gI h2 k = gI h k := fun k hk => funext fun j => (f k j (by omega)).1
  obtain ⟨x1, x2, x3, x4, x5, x6, x7, x8, x9, x10, x11, x12, x13, x14, x15, x16, x17, x18, x19, x20⟩ := x
  refine ⟨s.1, sl, ly, ev, per, s.2.1, s.2.2.1, s.2.2.2.1, s.2.2.2.2.1, c2.1, m.1, ?_, ?_, ?_, ?_, x5, ?_, ?_, x8, x9, ?_, ?_, x12, x13, ?_, ?_, ?_, ?_, ?_, ?_, fun s hs => xs_of (x20 s hs) (F _ (by omega)) (F _ (by omega)) (F _ (by omega)) (F _ (by omega)) (F _ (by omega))⟩
  · rw [m.2, c2.2]
  · rw [F 36 (by omega), F 7 (by omega)]; exact x2
  · rw [(f 1 8 (by omega)).1]; exact x3
  · rw [(f 27 11 (by omega)).1]; exact x4
  · rw [F 14 (by omega)]; exact x6
  · rw [(f 27 13 (by omega)).1]; exact x7
  · rw [F 15 (by omega)]; exact x10
  · rw [(f 27 14 (by omega)).1]; exact x11
  · rw [(f 27 15 (by omega)).1, F 15 (by omega)]; exact x14
  · rw [(f 27 16 (by omega)).2, (f 15 0 (by omega)).2]; exact x15
  · rw [(f 27 17 (by omega)).2, (f 15 1 (by omega)).2]; exact x16
  · rw [(f 15 0 (by omega)).2]; exact sub_up x17 hn
  · rw [(f 15 1 (by omega)).2]; exact sub_up x18 hn
  · rw [(f 27 4 (by omega)).1, F 0 (by omega)]; exact x19
theorem p_add (x y t : Int32) : Pr 0 62 [.int x, .int y, .int t] := by
  intro h i
  have i' := i
  obtain ⟨n, sl, ly, ev, per, P, Q, K, E, c, m, xx⟩ := i'
  have h40 := c.2.2.2.2.2.2.2.1
  have ct0 : HCt h sl (n, P, Q, K, E, gI h 4) := ⟨c, rfl⟩
  have mt0 : HMt h sl (n, P, Q, K, E, gI h 4) := ⟨m, xx.1⟩
  by_cases o : okA n x y ∧ okT t
  · by_cases hn : n < 40
    · obtain ⟨h1, e1, e2, e3⟩ := r_append (t := t) ct0 hn o.1
      have m1 := hmt_za mt0 e3
      obtain ⟨h2, f1, f2, f3⟩ := madd_y m1 hn o.1 o.2
      refine ⟨some (.int (nI (n + 1))), h1, h2, ?_, f1, inv_add xx e3 f3 e2 f2 (by show n ≤ n + 1; omega)⟩
      show Ev 0 0 [some (.ref 0), some (.int x), some (.int y), some (.int t)] [] h = _
      rw [b0_0, adm_y c o.1 o.2, rI_some, b0_10, if_pos (by decide), b0_16, full_no c.1 hn, rI_some, b0_23, if_pos rfl, b0_29, e1, rV_some, b0_39, e2.1.1]
      rfl
    · obtain rfl : n = 40 := by omega
      refine pr_of h i (r := some (.int (-4))) (h1 := h) (h2 := h) ?_ (sx_refl [] _) (by decide) (madd_f mt0 o.1 o.2 rfl) (sx_refl [] _) (by decide)
      show Ev 0 0 [some (.ref 0), some (.int x), some (.int y), some (.int t)] [] h = _
      rw [b0_0, adm_y c o.1 o.2, rI_some, b0_10, if_pos (by decide), b0_16, full_yes c.1, rI_some, b0_23, if_neg (by decide), b0_26]
  · refine pr_of h i (r := some (.int (-2))) (h1 := h) (h2 := h) ?_ (sx_refl [] _) (by decide) (madd_n mt0 o) (sx_refl [] _) (by decide)
    show Ev 0 0 [some (.ref 0), some (.int x), some (.int y), some (.int t)] [] h = _
    rw [b0_0, adm_n c o, rI_some, b0_10, if_neg (by decide), b0_13]
end AE
