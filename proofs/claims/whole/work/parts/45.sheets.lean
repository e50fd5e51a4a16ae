/-! Sheets: what each side does with one. -/
def Zs (s : Nat) (h h' : mH) : Prop := ∀ k j, rg k j = 0 → ¬ k = 19 + s → ¬ k = 23 + s → ¬ (k = 28 ∧ j = s) → ¬ (k = 29 ∧ j = s) → ¬ (k = 30 ∧ 60 * s ≤ j ∧ j < 60 * s + 60) → gI h' k j = gI h k j ∧ gJ h' k j = gJ h k j
theorem zs_refl (s : Nat) (h : mH) : Zs s h h := fun _ _ _ _ _ _ _ _ => ⟨rfl, rfl⟩
theorem zs_trans {s : Nat} {h h1 h2 : mH} (a : Zs s h h1) (b : Zs s h1 h2) : Zs s h h2 := fun k j p1 p2 p3 p4 p5 p6 => ⟨((b k j p1 p2 p3 p4 p5 p6).1).trans (a k j p1 p2 p3 p4 p5 p6).1, ((b k j p1 p2 p3 p4 p5 p6).2).trans (a k j p1 p2 p3 p4 p5 p6).2⟩
theorem zs_sx {s : Nat} {R : List Nat} {h h1 : mH} (a : Sx R h h1) (hR : 0 ∉ R) : Zs s h h1 := fun k j p1 _ _ _ _ _ => a k j (by rw [p1]; exact hR)
theorem zs_sI {s : Nat} {h h1 : mH} (a : Zs s h h1) {k p : Nat} {x : Int32} (hk : k = 19 + s ∨ k = 23 + s ∨ (k = 28 ∧ p = s) ∨ (k = 29 ∧ p = s) ∨ (k = 30 ∧ 60 * s ≤ p ∧ p < 60 * s + 60)) : Zs s h (sI h1 k p x) := by
  intro k' j' p1 p2 p3 p4 p5 p6
  have := a k' j' p1 p2 p3 p4 p5 p6
  rw [gI_else (by omega), gJ_sI]; exact this
section SH
variable {n sl ly ev per s : Nat} {P Q K : Nat → Int32} {E : Nat → Int64} {h h' h1 h2 : mH}
theorem zs_hc (w : HC h n sl P Q K E) (hs : s < 4) (z : Zs s h h') : HC h' n sl P Q K E := by
  obtain ⟨w1, w2, w3, w4, w5, w6, w7, w8⟩ := w
  have f : ∀ k j, rg k j = 0 → k < 19 ∨ k = 27 ∨ 30 < k → gI h' k j = gI h k j ∧ gJ h' k j = gJ h k j := fun k j hr hk => z k j hr (by omega) (by omega) (by omega) (by omega) (by omega)
  refine ⟨?_, ?_, w3, ?_, ?_, ?_, ?_, w8⟩
  · rw [(f 1 6 rfl (by omega)).1]; exact w1
  · rw [(f 1 7 rfl (by omega)).1]; exact w2
  · rw [show gI h' 2 = gI h 2 from funext fun j => (f 2 j (rg2 j) (by omega)).1]; exact w4
  · rw [show gI h' 3 = gI h 3 from funext fun j => (f 3 j (rg3 j) (by omega)).1]; exact w5
  · rw [show gI h' 5 = gI h 5 from funext fun j => (f 5 j (rg5 j) (by omega)).1]; exact w6
  · rw [show gJ h' 6 = gJ h 6 from funext fun j => (f 6 j (rg6 j) (by omega)).2]; exact w7
theorem zs_hm (w : HM h n sl P Q K E) (hs : s < 4) (z : Zs s h h') : HM h' n sl P Q K E := by
  obtain ⟨w1, w2, w3, w4, w5, w6, w8⟩ := w
  have f : ∀ k j, rg k j = 0 → k < 19 ∨ k = 27 ∨ 30 < k → gI h' k j = gI h k j ∧ gJ h' k j = gJ h k j := fun k j hr hk => z k j hr (by omega) (by omega) (by omega) (by omega) (by omega)
  refine ⟨?_, ?_, w3, ?_, ?_, ?_, w8⟩
  · rw [(f 27 5 rfl (by omega)).1]; exact w1
  · rw [(f 27 10 rfl (by omega)).1]; exact w2
  · rw [show gI h' 32 = gI h 32 from funext fun j => (f 32 j (rg32 j) (by omega)).1]; exact w4
  · rw [show gI h' 33 = gI h 33 from funext fun j => (f 33 j (rg33 j) (by omega)).1]; exact w5
  · rw [show gI h' 34 = gI h 34 from funext fun j => (f 34 j (rg34 j) (by omega)).1]; exact w6
theorem zs_xs (hs : s < 4) (z : Zs s h h') {r : Nat} (hr : r < 4) (hne : ¬ r = s) (x : Xs h r) : Xs h' r := by
  have e1 : ∀ j, gI h' (19 + r) j = gI h (19 + r) j := fun j => (z (19 + r) j (rg19 hr j).1 (by omega) (by omega) (by omega) (by omega) (by omega)).1
  have e2 : ∀ j, gI h' (23 + r) j = gI h (23 + r) j := fun j => (z (23 + r) j (rg19 hr j).2 (by omega) (by omega) (by omega) (by omega) (by omega)).1
  have e3 : gI h' 28 r = gI h 28 r := (z 28 r (rg28 r) (by omega) (by omega) (by omega) (by omega) (by omega)).1
  have e4 : gI h' 29 r = gI h 29 r := (z 29 r (rg29 r) (by omega) (by omega) (by omega) (by omega) (by omega)).1
  have e5 : ∀ i, i < 60 → gI h' 30 (60 * r + i) = gI h 30 (60 * r + i) := fun i hi => (z 30 (60 * r + i) (rg30 _) (by omega) (by omega) (by omega) (by omega) (by omega)).1
  unfold Xs at x ⊢
  simp only [e1, e2, e3, e4]
  rcases x with x | ⟨l, f, x1, x2, x3, x4, x5, x6, x7⟩
  · exact Or.inl x
  · exact Or.inr ⟨l, f, x1, x2, x3, x4, x5, x6, fun i hi => by rw [e5 i (by omega)]; exact x7 i hi⟩
theorem inv_sheet (i : Inv h) (hs : s < 4) (z : Zs s h h') (xs : Xs h' s) : Inv h' := by
  obtain ⟨n, sl, ly, ev, per, P, Q, K, E, c, m, x⟩ := i
  have f : ∀ k j, rg k j = 0 → k < 19 ∨ k = 27 ∨ 30 < k → gI h' k j = gI h k j ∧ gJ h' k j = gJ h k j := fun k j hr hk => z k j hr (by omega) (by omega) (by omega) (by omega) (by omega)
  obtain ⟨x1, x2, x3, x4, x5, x6, x7, x8, x9, x10, x11, x12, x13, x14, x15, x16, x17, x18, x19, x20⟩ := x
  refine ⟨n, sl, ly, ev, per, P, Q, K, E, zs_hc c hs z, zs_hm m hs z, ?_, ?_, ?_, ?_, x5, ?_, ?_, x8, x9, ?_, ?_, x12, x13, ?_, ?_, ?_, ?_, ?_, ?_, fun r hr => ?_⟩
  · rw [show gI h' 35 = gI h 35 from funext fun j => (f 35 j (rg35 j) (by omega)).1, show gI h' 4 = gI h 4 from funext fun j => (f 4 j (rg4 j) (by omega)).1]; exact x1
  · rw [show gI h' 36 = gI h 36 from funext fun j => (f 36 j (rg36 j) (by omega)).1, show gI h' 7 = gI h 7 from funext fun j => (f 7 j (rg7 j) (by omega)).1]; exact x2
  · rw [(f 1 8 rfl (by omega)).1]; exact x3
  · rw [(f 27 11 rfl (by omega)).1]; exact x4
  · rw [(f 14 0 rfl (by omega)).1]; exact x6
  · rw [(f 27 13 rfl (by omega)).1]; exact x7
  · rw [(f 15 2 rfl (by omega)).1]; exact x10
  · rw [(f 27 14 rfl (by omega)).1]; exact x11
  · rw [(f 27 15 rfl (by omega)).1, (f 15 3 rfl (by omega)).1]; exact x14
  · rw [(f 27 16 rfl (by omega)).2, (f 15 0 rfl (by omega)).2]; exact x15
  · rw [(f 27 17 rfl (by omega)).2, (f 15 1 rfl (by omega)).2]; exact x16
  · rw [(f 15 0 rfl (by omega)).2]; exact x17
  · rw [(f 15 1 rfl (by omega)).2]; exact x18
  · rw [(f 27 4 rfl (by omega)).1, (f 0 7 rfl (by omega)).1]; exact x19
  · by_cases hne : r = s
    · subst hne; exact xs
    · exact zs_xs hs z hr hne (x20 r hr)
theorem inv_find (i : Inv h) (v : Int32) : Inv (sI (sI h 0 7 v) 27 4 v) := by
  obtain ⟨n, sl, ly, ev, per, P, Q, K, E, c, m, x⟩ := i
  obtain ⟨x1, x2, x3, x4, x5, x6, x7, x8, x9, x10, x11, x12, x13, x14, x15, x16, x17, x18, x19, x20⟩ := x
  refine ⟨n, sl, ly, ev, per, P, Q, K, E, ?_, ?_, ?_⟩
  · exact hc_of c (by simp (disch := omega) only [fI_sJ, fJ_sI, fI_ne, fJ_ne, gI_sI, gJ_sJ, Nat.reduceEqDiff, eq_self, and_true, true_and, and_false, false_and, and_self, if_true, if_false, reduceIte, Nat.succ_ne_zero]) (by simp (disch := omega) only [fI_sJ, fJ_sI, fI_ne, fJ_ne, gI_sI, gJ_sJ, Nat.reduceEqDiff, eq_self, and_true, true_and, and_false, false_and, and_self, if_true, if_false, reduceIte, Nat.succ_ne_zero]) (by simp (disch := omega) only [fI_sJ, fJ_sI, fI_ne, fJ_ne, gI_sI, gJ_sJ, Nat.reduceEqDiff, eq_self, and_true, true_and, and_false, false_and, and_self, if_true, if_false, reduceIte, Nat.succ_ne_zero]) (by simp (disch := omega) only [fI_sJ, fJ_sI, fI_ne, fJ_ne, gI_sI, gJ_sJ, Nat.reduceEqDiff, eq_self, and_true, true_and, and_false, false_and, and_self, if_true, if_false, reduceIte, Nat.succ_ne_zero]) (by simp (disch := omega) only [fI_sJ, fJ_sI, fI_ne, fJ_ne, gI_sI, gJ_sJ, Nat.reduceEqDiff, eq_self, and_true, true_and, and_false, false_and, and_self, if_true, if_false, reduceIte, Nat.succ_ne_zero]) (by simp (disch := omega) only [fI_sJ, fJ_sI, fI_ne, fJ_ne, gI_sI, gJ_sJ, Nat.reduceEqDiff, eq_self, and_true, true_and, and_false, false_and, and_self, if_true, if_false, reduceIte, Nat.succ_ne_zero])
  · exact hm_of m (by simp (disch := omega) only [fI_sJ, fJ_sI, fI_ne, fJ_ne, gI_sI, gJ_sJ, Nat.reduceEqDiff, eq_self, and_true, true_and, and_false, false_and, and_self, if_true, if_false, reduceIte, Nat.succ_ne_zero]) (by simp (disch := omega) only [fI_sJ, fJ_sI, fI_ne, fJ_ne, gI_sI, gJ_sJ, Nat.reduceEqDiff, eq_self, and_true, true_and, and_false, false_and, and_self, if_true, if_false, reduceIte, Nat.succ_ne_zero]) (by simp (disch := omega) only [fI_sJ, fJ_sI, fI_ne, fJ_ne, gI_sI, gJ_sJ, Nat.reduceEqDiff, eq_self, and_true, true_and, and_false, false_and, and_self, if_true, if_false, reduceIte, Nat.succ_ne_zero]) (by simp (disch := omega) only [fI_sJ, fJ_sI, fI_ne, fJ_ne, gI_sI, gJ_sJ, Nat.reduceEqDiff, eq_self, and_true, true_and, and_false, false_and, and_self, if_true, if_false, reduceIte, Nat.succ_ne_zero]) (by simp (disch := omega) only [fI_sJ, fJ_sI, fI_ne, fJ_ne, gI_sI, gJ_sJ, Nat.reduceEqDiff, eq_self, and_true, true_and, and_false, false_and, and_self, if_true, if_false, reduceIte, Nat.succ_ne_zero])
  · refine ⟨?_, ?_, ?_, ?_, x5, ?_, ?_, x8, x9, ?_, ?_, x12, x13, ?_, ?_, ?_, ?_, ?_, ?_, fun s hs => xs_of (x20 s hs) (by simp (disch := omega) only [fI_sJ, fJ_sI, fI_ne, fJ_ne, gI_sI, gJ_sJ, Nat.reduceEqDiff, eq_self, and_true, true_and, and_false, false_and, and_self, if_true, if_false, reduceIte, Nat.succ_ne_zero]) (by simp (disch := omega) only [fI_sJ, fJ_sI, fI_ne, fJ_ne, gI_sI, gJ_sJ, Nat.reduceEqDiff, eq_self, and_true, true_and, and_false, false_and, and_self, if_true, if_false, reduceIte, Nat.succ_ne_zero]) (by simp (disch := omega) only [fI_sJ, fJ_sI, fI_ne, fJ_ne, gI_sI, gJ_sJ, Nat.reduceEqDiff, eq_self, and_true, true_and, and_false, false_and, and_self, if_true, if_false, reduceIte, Nat.succ_ne_zero]) (by simp (disch := omega) only [fI_sJ, fJ_sI, fI_ne, fJ_ne, gI_sI, gJ_sJ, Nat.reduceEqDiff, eq_self, and_true, true_and, and_false, false_and, and_self, if_true, if_false, reduceIte, Nat.succ_ne_zero]) (by simp (disch := omega) only [fI_sJ, fJ_sI, fI_ne, fJ_ne, gI_sI, gJ_sJ, Nat.reduceEqDiff, eq_self, and_true, true_and, and_false, false_and, and_self, if_true, if_false, reduceIte, Nat.succ_ne_zero])⟩ <;> simp (disch := omega) only [fI_sJ, fJ_sI, fI_ne, fJ_ne, gI_sI, gJ_sJ, Nat.reduceEqDiff, eq_self, and_true, true_and, and_false, false_and, and_self, if_true, if_false, reduceIte, Nat.succ_ne_zero, x1, x2, x3, x4, x6, x7, x10, x11, x14, x15, x16, x17, x18, x19]
def fd (v : Int32) : Int32 := (Int8.ofInt (-10)).toInt32 - v
theorem r_finding (v : Int32) (h : mH) : Rt 37 [.ref 0, .int v] h = some (some (.int (fd v)), sI h 0 7 v) := by
  show Ev 37 0 [some (.ref 0), some (.int v)] [] h = _
  rw [b37_0]; rfl
theorem r_finds (v : Int32) (h : mH) : Rt 49 [.ref 27, .int v] h = some (some (.int (fd v)), sI h 27 4 v) := by
  show Ev 49 0 [some (.ref 27), some (.int v)] [] h = _
  rw [b49_0]; rfl
theorem shp_s (hs : s < 4) : shp (19 + s) = (0, 6) ∧ shp (19 + s + 4) = (1, 60) := by
  have : s = 0 ∨ s = 1 ∨ s = 2 ∨ s = 3 := by omega
  rcases this with rfl | rfl | rfl | rfl <;> decide
theorem r_sheetAt (hs : s < 4) (h : mH) : Rt 38 [.ref 0, .int (nI s)] h = some (some (.ref (19 + s)), h) := by
  show Ev 38 0 [some (.ref 0), some (.int (nI s))] [] h = _
  rw [b38_0, if_neg (by rw [lt0_nI (by omega)]; exact fun q => q), b38_4, if_neg (show ¬ (4 : Int32) ≤ nI s from by rw [show (4 : Int32) = nI 4 from rfl, le_nI (by omega) (by omega)]; omega), b38_9, if_pos (of_eq_true (gd_nI (a := s) (N := 4) hs (by omega))), cl_nI (by omega), b38_15, b38_19S]
theorem r_sheetAt_no {x : Int32} (hx : x < 0 ∨ nI 3 < x) (h : mH) : Rt 38 [.ref 0, .int x] h = some (some .null, h) := by
  show Ev 38 0 [some (.ref 0), some (.int x)] [] h = _
  rw [b38_0]
  by_cases h0 : x < 0
  · rw [if_pos h0, b38_18, b38_19N]
  · rw [if_neg h0, b38_4, if_pos, b38_18, b38_19N]
    rcases int_cases x with q | ⟨j, hj, rfl⟩
    · exact absurd q h0
    · rcases hx with hx | hx
      · exact absurd hx h0
      · rw [lt_nI (by omega) (by omega)] at hx
        rw [show (4 : Int32) = nI 4 from rfl, le_nI (by omega) (by omega)]; omega
theorem r_isSheet (hs : s < 4) (h : mH) : Rt 50 [.int (nI s)] h = some (some (.int 1), h) := by
  show Ev 50 0 [some (.int (nI s))] [] h = _
  rw [b50_0, in_yes (k := 3) (by omega) (by omega) (A := 0) (B := 3) (by decide) (by decide), rI_some, b50_9, if_pos (Or.inr rfl)]
theorem r_isSheet_no {x : Int32} (hx : x < 0 ∨ nI 3 < x) (h : mH) : Rt 50 [.int x] h = some (some (.int 0), h) := by
  show Ev 50 0 [some (.int x)] [] h = _
  rw [b50_0, in_no (k := 3) hx (A := 0) (B := 3) (by decide) (by decide), rI_some, b50_9, if_pos (Or.inl rfl)]
theorem rng_s (x : Int32) : (∃ s, s < 4 ∧ x = nI s) ∨ (x < 0 ∨ nI 3 < x) := by
  rcases rng_in x (k := 3) (by omega) with ⟨j, hj, e⟩ | h
  · exact Or.inl ⟨j, by omega, e⟩
  · exact Or.inr h
theorem r_lost (hs : s < 4) (e : gI h (19 + s) 2 = -1) : Rt 159 [.ref (19 + s)] h = some (some (.int 1), h) := by
  show Ev 159 0 [some (.ref (19 + s))] [] h = _
  rw [b159_0 _ _ (shp_s hs).1, e, b159_4, if_neg (by decide), b159_7, b159_12, if_pos (Or.inr rfl)]
theorem r_notlost (hs : s < 4) {l : Nat} (hl : l ≤ 60) (e : gI h (19 + s) 2 = nI l) : Rt 159 [.ref (19 + s)] h = some (some (.int 0), h) := by
  show Ev 159 0 [some (.ref (19 + s))] [] h = _
  rw [b159_0 _ _ (shp_s hs).1, e, b159_4, if_pos (by rw [ge0_nI (by omega)]; trivial), b159_11, b159_12, if_pos (Or.inl rfl)]
theorem it_yes (hs : s < 4) {l i : Nat} (hl : l ≤ 60) (hi : i < l) (e : gI h (19 + s) 2 = nI l) : Rt 162 [.ref (19 + s), .int (nI i)] h = some (some (.int 1), h) := by
  show Ev 162 0 [some (.ref (19 + s)), some (.int (nI i))] [] h = _
  rw [b162_0, if_neg (by rw [lt0_nI (by omega)]; exact fun q => q), b162_4 _ _ _ (shp_s hs).1, e, b162_9, if_neg (by rw [le_nI (by omega) (by omega)]; omega), b162_12, if_neg (show ¬ (60 : Int32) ≤ nI i from by rw [show (60 : Int32) = nI 60 from rfl, le_nI (by omega) (by omega)]; omega), b162_18, b162_23, if_pos (Or.inr rfl)]
theorem it_no (hs : s < 4) {l : Nat} (hl : l ≤ 60) {x : Int32} (hx : x < 0 ∨ nI l ≤ x) (e : gI h (19 + s) 2 = nI l) : Rt 162 [.ref (19 + s), .int x] h = some (some (.int 0), h) := by
  show Ev 162 0 [some (.ref (19 + s)), some (.int x)] [] h = _
  rw [b162_0]
  by_cases h0 : x < 0
  · rw [if_pos h0, b162_22, b162_23, if_pos (Or.inl rfl)]
  · rw [if_neg h0, b162_4 _ _ _ (shp_s hs).1, e, b162_9, if_pos (hx.resolve_left h0), b162_22, b162_23, if_pos (Or.inl rfl)]
theorem r_itemAt (hs : s < 4) {l i : Nat} (hl : l ≤ 60) (hi : i < l) (e : gI h (19 + s) 2 = nI l) : Rt 164 [.ref (19 + s), .int (nI i)] h = some (some (.int (gI h (23 + s) i)), h) := by
  show Ev 164 0 [some (.ref (19 + s)), some (.int (nI i))] [] h = _
  rw [b164_0 _ _ _ (shp_s hs).1, it_yes hs hl hi e, rI_some, b164_5, if_neg (by decide), b164_8 _ _ _ (shp_s hs).1, b164_12 _ _ _ _ (shp_s hs).2, if_pos (of_eq_true (gd_nI (a := i) (N := 60) (by omega) (by omega))), cl_nI (by omega), b164_14, b164_18, show 19 + s + 4 = 23 + s by omega]
def cutf (f v : Int32) : Int32 := if f = 0 then v.toInt8.toInt32 else if f = 1 then v.toInt16.toInt32 else v
theorem r_narrowed (hs : s < 4) (v : Int32) : Rt 166 [.ref (19 + s), .int v] h = some (some (.int (cutf (gI h (19 + s) 1) v)), h) := by
  show Ev 166 0 [some (.ref (19 + s)), some (.int v)] [] h = _
  rw [b166_0 _ _ _ (shp_s hs).1, b166_4, cutf]
  by_cases h0 : gI h (19 + s) 1 = 0
  · rw [if_pos h0, if_pos h0, b166_32]
  · rw [if_neg h0, if_neg h0]
    by_cases h1 : gI h (19 + s) 1 = 1
    · rw [if_pos h1, if_pos h1, b166_35]
    · rw [if_neg h1, if_neg h1, b166_38]
theorem r_cut (f v : Int32) (h : mH) : Rt 54 [.int f, .int v] h = some (some (.int (cutf f v)), h) := by
  show Ev 54 0 [some (.int f), some (.int v)] [] h = _
  rw [b54_0, cutf]
  by_cases h0 : f = 0
  · rw [if_neg (fun q => q h0), if_pos h0, b54_4, b54_20]
  · rw [if_pos h0, if_neg h0, b54_9]
    by_cases h1 : f = 1
    · rw [if_neg (fun q => q h1), if_pos h1, b54_14, b54_20]
    · rw [if_pos h1, if_neg h1, b54_19, b54_20]
theorem r_store (hs : s < 4) {l i : Nat} (hl : l ≤ 60) (hi : i < l) (e : gI h (19 + s) 2 = nI l) (v : Int32) : Rt 165 [.ref (19 + s), .int (nI i), .int v] h = some (none, sI h (23 + s) i (cutf (gI h (19 + s) 1) v)) := by
  show Ev 165 0 [some (.ref (19 + s)), some (.int (nI i)), some (.int v)] [] h = _
  rw [b165_0 _ _ _ _ (shp_s hs).1, it_yes hs hl hi e, rI_some, b165_5, if_neg (by decide), b165_8 _ _ _ _ (shp_s hs).1, b165_12 _ _ _ _ _ (shp_s hs).1, r_narrowed hs, rI_some, b165_18 _ _ _ _ _ _ _ (shp_s hs).2, if_pos (of_eq_true (gd_nI (a := i) (N := 60) (by omega) (by omega))), cl_nI (by omega), b165_19, show 19 + s + 4 = 23 + s by omega]
theorem r_isForm {f : Nat} (hf : f ≤ 2) (h : mH) : Rt 39 [.int (nI f)] h = some (some (.int 1), h) := by
  show Ev 39 0 [some (.int (nI f))] [] h = _
  rw [b39_0, if_neg (c2_yes hf).1, b39_4, if_neg (show ¬ (3 : Int32) ≤ nI f from by rw [show (3 : Int32) = nI 3 from rfl, le_nI (by omega) (by omega)]; omega), b39_9, b39_14, if_pos (Or.inr rfl)]
theorem r_isForm_no {x : Int32} (hx : x < 0 ∨ nI 2 < x) (h : mH) : Rt 39 [.int x] h = some (some (.int 0), h) := by
  show Ev 39 0 [some (.int x)] [] h = _
  rw [b39_0]
  by_cases h0 : x < 0
  · rw [if_pos h0, b39_13, b39_14, if_pos (Or.inl rfl)]
  · rw [if_neg h0, b39_4, if_pos, b39_13, b39_14, if_pos (Or.inl rfl)]
    rcases int_cases x with q | ⟨j, hj, rfl⟩
    · exact absurd q h0
    · rcases hx with hx | hx
      · exact absurd hx h0
      · rw [lt_nI (by omega) (by omega)] at hx
        rw [show (3 : Int32) = nI 3 from rfl, le_nI (by omega) (by omega)]; omega
theorem ix60 (s i : Nat) : (60 : Int32) * nI s + nI i = nI (60 * s + i) := by
  rw [show (60 : Int32) = nI 60 from rfl, pk_mul]; exact (Int32.ofNat_add _ _).symm
end SH
