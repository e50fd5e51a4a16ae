/-! ADD, on each side. -/
abbrev Hst : Type := Nat × (Nat → Int32) × (Nat → Int32) × (Nat → Int32) × (Nat → Int64) × (Nat → Int32)
def upJ (f : Nat → Int64) (k : Nat) (x : Int64) : Nat → Int64 := fun j => if j = k then x else f j
def rk (K : Nat → Int32) (x : Int32) : Int32 := if x = -1 then 0 else K x.toNatClampNeg
def mx (a b : Int32) : Int32 := if a < b then b else a
def ap (s : Hst) (x y t : Int32) : Hst := (s.1 + 1, up s.2.1 s.1 x, up s.2.2.1 s.1 y, up s.2.2.2.1 s.1 (1 + mx (rk s.2.2.2.1 x) (rk s.2.2.2.1 y)), upJ s.2.2.2.2.1 s.1 ((ob s.1 ||| rv s.2.2.2.2.1 x) ||| rv s.2.2.2.2.1 y), up s.2.2.2.2.2 s.1 t)
def okA (n : Nat) (x y : Int32) : Prop := okp x n ∧ okp y n ∧ (x = -1 → y = -1) ∧ (x = y → x = -1)
def okT (t : Int32) : Prop := 0 ≤ t ∧ t ≤ 1048575
def HCt (h : mH) (sl : Nat) (s : Hst) : Prop := HC h s.1 sl s.2.1 s.2.2.1 s.2.2.2.1 s.2.2.2.2.1 ∧ gI h 4 = s.2.2.2.2.2
def HMt (h : mH) (sl : Nat) (s : Hst) : Prop := HM h s.1 sl s.2.1 s.2.2.1 s.2.2.2.1 s.2.2.2.2.1 ∧ gI h 35 = s.2.2.2.2.2
def Za (h h' : mH) : Prop := ∀ k j, (k < 1 ∨ 6 < k ∨ (k = 1 ∧ ¬ j = 6)) → gI h' k j = gI h k j ∧ gJ h' k j = gJ h k j
def Zm (h h' : mH) : Prop := ∀ k j, (k < 27 ∨ (k = 27 ∧ ¬ j = 5) ∨ (27 < k ∧ k < 32) ∨ 35 < k) → gI h' k j = gI h k j ∧ gJ h' k j = gJ h k j
theorem za_refl (h : mH) : Za h h := fun _ _ _ => ⟨rfl, rfl⟩
theorem zm_refl (h : mH) : Zm h h := fun _ _ _ => ⟨rfl, rfl⟩
theorem za_trans {h h1 h2 : mH} (a : Za h h1) (b : Za h1 h2) : Za h h2 := fun k j q => ⟨((b k j q).1).trans (a k j q).1, ((b k j q).2).trans (a k j q).2⟩
theorem zm_trans {h h1 h2 : mH} (a : Zm h h1) (b : Zm h1 h2) : Zm h h2 := fun k j q => ⟨((b k j q).1).trans (a k j q).1, ((b k j q).2).trans (a k j q).2⟩
theorem upJ_sJ (h : mH) (k p : Nat) (x : Int64) : gJ (sJ h k p x) k = upJ (gJ h k) p x := by
  funext j; rw [gJ_sJ]; unfold upJ
  by_cases hj : j = p
  · subst hj; simp
  · simp [hj]
theorem up_lt {f : Nat → Int32} {k : Nat} {x : Int32} {j : Nat} (h : j < k) : up f k x j = f j := by rw [up, if_neg (by omega)]
theorem up_at (f : Nat → Int32) (k : Nat) (x : Int32) : up f k x k = x := by rw [up, if_pos rfl]
theorem rv_up {E : Nat → Int64} {v : Int32} {n : Nat} (hv : okp v n) (hn : n ≤ 40) (z : Int64) : rv (upJ E n z) v = rv E v := by
  rcases hv with rfl | ⟨p, hp, rfl⟩
  · rw [rv_m1, rv_m1]
  · rw [rv_nI _ (by omega), rv_nI _ (by omega), upJ, if_neg (by omega)]
theorem rk_or {n : Nat} {P Q K : Nat → Int32} {E : Nat → Int64} (w : WF n P Q K E) {x : Int32} (hx : okp x n) : ∃ r, r ≤ n ∧ rk K x = nI r ∧ ∀ p, p < n → x = nI p → K p = nI r := by
  have h40 := w.1
  rcases hx with rfl | ⟨p, hp, rfl⟩
  · refine ⟨0, Nat.zero_le n, by rw [rk, if_pos rfl]; rfl, fun p hp q => ?_⟩
    have := ne_m1 (a := p) (by omega)
    rw [← q] at this
    exact absurd rfl (by rw [this]; exact fun q => q)
  · obtain ⟨_, _, _, _, r, h1, h2, h3, _⟩ := w.2 p hp
    refine ⟨r, by omega, ?_, fun q hq e => ?_⟩
    · rw [rk, if_neg (by rw [ne_m1 (by omega)]; exact fun q => q), cl_nI (by omega)]; exact h3
    · rw [eq_nI (by omega) (by omega)] at e
      subst e; exact h3
theorem mx_nI {a b : Nat} (ha : a ≤ 40) (hb : b ≤ 40) : mx (nI a) (nI b) = nI (if a < b then b else a) := by
  unfold mx
  have e : (nI a < nI b) = (a < b) := lt_nI (by omega) (by omega)
  by_cases h1 : a < b
  · rw [if_pos (by rw [e]; exact h1), if_pos h1]
  · rw [if_neg (by rw [e]; exact h1), if_neg h1]
theorem wf_ap {n : Nat} {P Q K : Nat → Int32} {E : Nat → Int64} (w : WF n P Q K E) (hn : n < 40) {x y : Int32} (o : okA n x y) : WF (n + 1) (up P n x) (up Q n y) (up K n (1 + mx (rk K x) (rk K y))) (upJ E n ((ob n ||| rv E x) ||| rv E y)) := by
  refine ⟨by omega, fun c hc => ?_⟩
  by_cases hcn : c < n
  · obtain ⟨a1, a2, a3, a4, r, b1, b2, b3, b4⟩ := w.2 c hcn
    rw [up_lt hcn, up_lt hcn, up_lt hcn]
    refine ⟨a1, a2, a3, ?_, r, b1, b2, b3, fun p hp q => ?_⟩
    · rw [rv_up (okp_le a1 (by omega)) (by omega), rv_up (okp_le a2 (by omega)) (by omega), upJ, if_neg (by omega)]; exact a4
    · rw [up_lt (by omega)]; exact b4 p hp q
  · obtain rfl : c = n := by omega
    obtain ⟨o1, o2, o3, o4⟩ := o
    rw [up_at, up_at, up_at]
    obtain ⟨r1, c1, c2, c3⟩ := rk_or w o1
    obtain ⟨r2, d1, d2, d3⟩ := rk_or w o2
    refine ⟨o1, o2, o4, ?_, 1 + (if r1 < r2 then r2 else r1), by omega, by split <;> omega, ?_, fun p hp q => ?_⟩
    · rw [rv_up o1 (by omega), rv_up o2 (by omega), upJ, if_pos rfl]
    · rw [c2, d2, mx_nI (by omega) (by omega)]
      exact (Int32.ofNat_add 1 _).symm
    · rw [up_lt hp]
      rcases q with q | q
      · exact ⟨r1, c3 p hp q, by split <;> omega⟩
      · exact ⟨r2, d3 p hp q, by split <;> omega⟩
section AD
variable {n sl : Nat} {P Q K : Nat → Int32} {E : Nat → Int64} {h h' : mH}
theorem rk_c (hn : gI h 1 6 = nI n) (h40 : n ≤ 40) {x : Int32} (hx : okp x n) : Rt 137 [.ref 1, .int x] h = some (some (.int (rk (gI h 5) x)), h) := by
  rcases hx with rfl | ⟨p, hp, rfl⟩
  · rw [r_rankOf_no, rk, if_pos rfl]
  · rw [r_rankOf hn h40 hp, rk, if_neg (by rw [ne_m1 (by omega)]; exact fun q => q), cl_nI (by omega)]
theorem rv_c (hn : gI h 1 6 = nI n) (h40 : n ≤ 40) {x : Int32} (hx : okp x n) : Rt 139 [.ref 1, .int x] h = some (some (.long (rv (gJ h 6) x)), h) := by
  rcases hx with rfl | ⟨p, hp, rfl⟩
  · rw [r_reachOf_no, rv_m1]
  · rw [r_reachOf hn h40 hp, rv_nI _ (by omega)]
theorem full_no (hn : gI h 1 6 = nI n) (h40 : n < 40) : Rt 126 [.ref 1] h = some (some (.int 0), h) := by
  show Ev 126 0 [some (.ref 1)] [] h = _
  rw [b126_0, hn, if_pos (by rw [lt40 (by omega)]; exact h40), b126_13, b126_14, if_pos (Or.inl rfl)]
theorem full_yes (hn : gI h 1 6 = nI 40) : Rt 126 [.ref 1] h = some (some (.int 1), h) := by
  show Ev 126 0 [some (.ref 1)] [] h = _
  rw [b126_0, hn, if_neg (by decide), b126_9, b126_14, if_pos (Or.inr rfl)]
theorem r_append {s : Hst} (w : HCt h sl s) (hn : s.1 < 40) {x y t : Int32} (o : okA s.1 x y) : ∃ h', Rt 128 [.ref 1, .int x, .int y, .int t] h = some (none, h') ∧ HCt h' sl (ap s x y t) ∧ Za h h' := by
  obtain ⟨n, P, Q, K, E, T⟩ := s
  obtain ⟨⟨w1, w2, w3, w4, w5, w6, w7, w8⟩, w9⟩ := w
  simp only at w1 w2 w3 w4 w5 w6 w7 w8 w9 hn o
  obtain ⟨h1, e1⟩ : ∃ h1, h1 = sI (sI (sI h 2 n x) 3 n y) 4 n t := ⟨_, rfl⟩
  obtain ⟨h2, e2⟩ : ∃ h2, h2 = sI h1 5 n (1 + mx (rk K x) (rk K y)) := ⟨_, rfl⟩
  obtain ⟨h3, e3⟩ : ∃ h3, h3 = sJ h2 6 n ((ob n ||| rv E x) ||| rv E y) := ⟨_, rfl⟩
  have q1 : gI h1 1 6 = nI n := by rw [e1]; simp (disch := omega) only [fI_sJ, fJ_sI, fI_ne, fJ_ne, gI_sI, gJ_sJ, Nat.reduceEqDiff, eq_self, and_true, true_and, and_false, false_and, and_self, if_true, if_false, reduceIte, Nat.succ_ne_zero, w1]
  have q1' : gI h2 1 6 = nI n := by rw [e2]; simp (disch := omega) only [fI_sJ, fJ_sI, fI_ne, fJ_ne, gI_sI, gJ_sJ, Nat.reduceEqDiff, eq_self, and_true, true_and, and_false, false_and, and_self, if_true, if_false, reduceIte, Nat.succ_ne_zero, q1]
  have q5 : gI h1 5 = K := by rw [e1]; simp (disch := omega) only [fI_sJ, fJ_sI, fI_ne, fJ_ne, gI_sI, gJ_sJ, Nat.reduceEqDiff, eq_self, and_true, true_and, and_false, false_and, and_self, if_true, if_false, reduceIte, Nat.succ_ne_zero, w6]
  have q6 : gJ h2 6 = E := by rw [e2, e1]; simp (disch := omega) only [fI_sJ, fJ_sI, fI_ne, fJ_ne, gI_sI, gJ_sJ, Nat.reduceEqDiff, eq_self, and_true, true_and, and_false, false_and, and_self, if_true, if_false, reduceIte, Nat.succ_ne_zero, w7]
  refine ⟨sI h3 1 6 (nI (n + 1)), ?_, ⟨⟨?_, ?_, by show sl ≤ n + 1; omega, ?_, ?_, ?_, ?_, wf_ap w8 hn o⟩, ?_⟩, ?_⟩
  · show Ev 128 0 [some (.ref 1), some (.int x), some (.int y), some (.int t), none] [] h = _
    rw [b128_0, full_no w1 hn, rI_some, b128_4, if_pos rfl]
    simp (disch := omega) only [b128_8, b128_22, b128_30, e10, e01, em10, eq_self, lt0_nI, ge0_nI, cl_nI, le_nI, lt_nI, eq_nI, ne_m1, le40, lt40, gd_nI, nI_1, yle, nle, ylt, nlt, reduceIte, if_true, if_false, and_true, true_and, and_false, false_and, or_true, true_or, or_false, false_or, not_true_eq_false, not_false_eq_true, rI_some, rL_some, rV_some, rA_ref, rA_null, b01, b01', i01, lcmp0, lcmp_lt, lcmp_gt, om1, m1_lt0, w1]
    rw [← e1, b128_38, rk_c q1 (by omega) o.1, rI_some, b128_50, rk_c q1 (by omega) o.2.1, rI_some, b128_55, if_pos (of_eq_true (gd_nI (a := n) (N := 40) (by omega) (by omega))), cl_nI (by omega), q5]
    rw [show (if rk K x < rk K y then rk K y else rk K x) = mx (rk K x) (rk K y) from rfl, ← e2, b128_60, r_bit hn, rL_some, b128_71, rv_c q1' (by omega) o.1, rL_some, b128_76, rv_c q1' (by omega) o.2.1, rL_some, b128_82, if_pos (of_eq_true (gd_nI (a := n) (N := 40) (by omega) (by omega))), cl_nI (by omega), q6, ← e3, b128_84, nI_1]
  · simp (disch := omega) only [fI_sJ, fJ_sI, fI_ne, fJ_ne, gI_sI, gJ_sJ, Nat.reduceEqDiff, eq_self, and_true, true_and, and_false, false_and, and_self, if_true, if_false, reduceIte, Nat.succ_ne_zero]; rfl
  · rw [e3, e2, e1]; simp (disch := omega) only [fI_sJ, fJ_sI, fI_ne, fJ_ne, gI_sI, gJ_sJ, Nat.reduceEqDiff, eq_self, and_true, true_and, and_false, false_and, and_self, if_true, if_false, reduceIte, Nat.succ_ne_zero, w2]
  · rw [e3, e2, e1]; simp (disch := omega) only [fI_sJ, fI_ne, up_sI, w4]; rfl
  · rw [e3, e2, e1]; simp (disch := omega) only [fI_sJ, fI_ne, up_sI, w5]; rfl
  · rw [e3, e2, e1]; simp (disch := omega) only [fI_sJ, fI_ne, up_sI, w6]; rfl
  · rw [fJ_sI, e3, upJ_sJ, q6]; rfl
  · rw [e3, e2, e1]; simp (disch := omega) only [fI_sJ, fI_ne, up_sI, w9]; rfl
  · intro k j hk
    rw [e3, e2, e1]
    rw [gI_else (by omega), gI_sJ, gI_else (by omega), gI_else (by omega), gI_else (by omega), gI_else (by omega), gJ_sI, gJ_else (by omega), gJ_sI, gJ_sI, gJ_sI, gJ_sI]
    exact ⟨rfl, rfl⟩
theorem adm_y {x y t : Int32} (c : HC h n sl P Q K E) (o : okA n x y) (ot : okT t) : Rt 127 [.ref 1, .int x, .int y, .int t] h = some (some (.int 1), h) := by
  have h40 := c.2.2.2.2.2.2.2.1
  obtain ⟨o1, o2, o3, o4⟩ := o
  show Ev 127 0 [some (.ref 1), some (.int x), some (.int y), some (.int t)] [] h = _
  rw [b127_0, if_neg (Int32.not_lt.mpr ot.1), b127_4, if_pos ot.2, b127_12]
  by_cases hx : x = -1
  · rw [if_neg (fun q => q hx), b127_17, if_neg (fun q => q (o3 hx)), b127_22, b127_27, if_pos (Or.inr rfl)]
  · rw [if_pos hx, b127_28]
    obtain ⟨a, ha, rfl⟩ := o1.resolve_left hx
    rw [c_in c ha, rI_some, b127_33, if_neg (by decide), b127_36]
    by_cases hy : y = -1
    · rw [if_pos hy, b127_54, b127_59, if_pos (Or.inr rfl)]
    · obtain ⟨b, hb, rfl⟩ := o2.resolve_left hy
      rw [if_neg hy, b127_41, c_in c hb, rI_some, b127_46, if_neg (by decide), b127_49, if_neg (fun q => hx (o4 q.symm)), b127_54, b127_59, if_pos (Or.inr rfl)]
theorem adm_n {x y t : Int32} (c : HC h n sl P Q K E) (o : ¬ (okA n x y ∧ okT t)) : Rt 127 [.ref 1, .int x, .int y, .int t] h = some (some (.int 0), h) := by
  have h40 := c.2.2.2.2.2.2.2.1
  show Ev 127 0 [some (.ref 1), some (.int x), some (.int y), some (.int t)] [] h = _
  rw [b127_0]
  by_cases t1 : t < 0
  · rw [if_pos t1, b127_10]
  rw [if_neg t1, b127_4]
  by_cases t2 : t ≤ 1048575
  · have o' : ¬ okA n x y := fun q => o ⟨q, Int32.not_lt.mp t1, t2⟩
    rw [if_pos t2, b127_12]
    by_cases hx : x = -1
    · have hy : ¬ y = -1 := fun q => o' ⟨Or.inl hx, Or.inl q, fun _ => q, fun _ => hx⟩
      rw [if_neg (fun q => q hx), b127_17, if_pos hy, b127_26, b127_27, if_pos (Or.inl rfl)]
    · rw [if_pos hx, b127_28]
      rcases rng h40 x with ⟨a, ha, rfl⟩ | ⟨g1, g2⟩
      · rw [c_in c ha, rI_some, b127_33, if_neg (by decide), b127_36]
        by_cases hy : y = -1
        · exact absurd ⟨Or.inr ⟨a, ha, rfl⟩, Or.inl hy, fun q => absurd q hx, fun q => absurd (q.trans hy) hx⟩ o'
        · rw [if_neg hy, b127_41]
          rcases rng h40 y with ⟨b, hb, rfl⟩ | ⟨g1, g2⟩
          · rw [c_in c hb, rI_some, b127_46, if_neg (by decide), b127_49]
            by_cases he : nI b = nI a
            · rw [if_pos he, b127_58, b127_59, if_pos (Or.inl rfl)]
            · exact absurd ⟨Or.inr ⟨a, ha, rfl⟩, Or.inr ⟨b, hb, rfl⟩, fun q => absurd q hx, fun q => absurd q.symm he⟩ o'
          · rw [g1 _ _ _ _ _ _ c, rI_some, b127_46, if_pos rfl, b127_58, b127_59, if_pos (Or.inl rfl)]
      · rw [g1 _ _ _ _ _ _ c, rI_some, b127_33, if_pos rfl, b127_58, b127_59, if_pos (Or.inl rfl)]
  · rw [if_neg t2, b127_10]
end AD
