/-! DIGEST: the model; both. -/
section DI
variable {n sl ly ev per : Nat} {P Q K : Nat → Int32} {E : Nat → Int64} {h h' h1 h2 : mH}
theorem tl1 (F : Nat → Int32) {a : Nat} (hF : ∀ j, j < 6 → Rt 71 [.ref 27, .int (nI a), .int (nI j)] h = some (some (.int (F j)), h)) (x1 : Int64) (o2 : Option Value) (x4 : Int32) : ∀ (k i : Nat) (z : Int64) (o6 : Option Value), i + k = 6 → ∃ q6, Ev 115 6 [some (.ref 27), some (.long x1), o2, some (.int (nI a)), some (.int x4), some (.long z), o6, some (.int (nI i))] [] h = Ev 115 36 [some (.ref 27), some (.long x1), o2, some (.int (nI a)), some (.int x4), some (.long (fo (fun j => (F j).toInt64) k i z)), q6, some (.int (nI 6))] [] h
  | 0, i, z, o6, hk => by
    obtain rfl : i = 6 := by omega
    exact ⟨o6, by rw [b115_6, if_pos (by decide)]; rfl⟩
  | k + 1, i, z, o6, hk => by
    obtain ⟨q6, e⟩ := tl1 F hF x1 o2 x4 k (i + 1) (31 * z + (F i).toInt64) none (by omega)
    refine ⟨q6, ?_⟩
    rw [fo, ← e, b115_6, if_neg (show ¬ (6 : Int32) ≤ nI i from by rw [show (6 : Int32) = nI 6 from rfl, le_nI (by omega) (by omega)]; omega), b115_13, hF i (by omega), rI_some, b115_26, nI_1]
theorem tl2 (F : Nat → Int32) {a : Nat} (hF : ∀ j, j < 3 → Rt 93 [.ref 27, .int (nI a), .int (nI j)] h = some (some (.int (F j)), h)) (x1 : Int64) (o2 : Option Value) (x4 : Int32) : ∀ (k i : Nat) (z : Int64) (o6 : Option Value), i + k = 3 → ∃ q6, Ev 115 53 [some (.ref 27), some (.long x1), o2, some (.int (nI a)), some (.int x4), some (.long z), o6, some (.int (nI i))] [] h = Ev 115 82 [some (.ref 27), some (.long x1), o2, some (.int (nI a)), some (.int x4), some (.long (fo (fun j => (F j).toInt64) k i z)), q6, some (.int (nI 3))] [] h
  | 0, i, z, o6, hk => by
    obtain rfl : i = 3 := by omega
    exact ⟨o6, by rw [b115_53, if_pos (by decide)]; rfl⟩
  | k + 1, i, z, o6, hk => by
    obtain ⟨q6, e⟩ := tl2 F hF x1 o2 x4 k (i + 1) (31 * z + (F i).toInt64) none (by omega)
    refine ⟨q6, ?_⟩
    rw [fo, ← e, b115_53, if_neg (le3 (by omega)), b115_59, hF i (by omega), rI_some, b115_72, nI_1]
theorem tl3 (F : Nat → Int32) {a : Nat} (hF : ∀ j, j < 3 → Rt 95 [.ref 27, .int (nI a), .int (nI j)] h = some (some (.int (F j)), h)) (x1 : Int64) (o2 : Option Value) (x4 : Int32) : ∀ (k i : Nat) (z : Int64) (o6 : Option Value), i + k = 3 → ∃ q6, Ev 115 85 [some (.ref 27), some (.long x1), o2, some (.int (nI a)), some (.int x4), some (.long z), o6, some (.int (nI i))] [] h = Ev 115 114 [some (.ref 27), some (.long x1), o2, some (.int (nI a)), some (.int x4), some (.long (fo (fun j => (F j).toInt64) k i z)), q6, some (.int (nI 3))] [] h
  | 0, i, z, o6, hk => by
    obtain rfl : i = 3 := by omega
    exact ⟨o6, by rw [b115_85, if_pos (by decide)]; rfl⟩
  | k + 1, i, z, o6, hk => by
    obtain ⟨q6, e⟩ := tl3 F hF x1 o2 x4 k (i + 1) (31 * z + (F i).toInt64) none (by omega)
    refine ⟨q6, ?_⟩
    rw [fo, ← e, b115_85, if_neg (le3 (by omega)), b115_91, hF i (by omega), rI_some, b115_104, nI_1]
theorem tl4 {a b : Nat} (ha : a < n) (hb : b < n) (x1 : Int64) (o2 : Option Value) : ∀ (k i : Nat) (z : Int64) (h : mH) (o6 : Option Value), i + k = 3 → HM h n sl P Q K E → ∃ h' q6, Ev 115 150 [some (.ref 27), some (.long x1), o2, some (.int (nI a)), some (.int (nI b)), some (.long z), o6, some (.int (nI i))] [] h = Ev 115 181 [some (.ref 27), some (.long x1), o2, some (.int (nI a)), some (.int (nI b)), some (.long (fo (fun j => (lkB n sl P Q K E a b j).toInt64) k i z)), q6, some (.int (nI 3))] [] h' ∧ Sx [6] h h'
  | 0, i, z, h, o6, hk, w => by
    obtain rfl : i = 3 := by omega
    exact ⟨h, o6, by rw [b115_150, if_pos (by decide)]; rfl, sx_refl _ _⟩
  | k + 1, i, z, h, o6, hk, w => by
    obtain ⟨h1, f1, f2⟩ := lk_m w ha hb (show i ≤ 2 by omega)
    obtain ⟨h', q6, e, e2⟩ := tl4 ha hb x1 o2 k (i + 1) (31 * z + (lkB n sl P Q K E a b i).toInt64) h1 none (by omega) (hm_sx w f2 (by decide))
    refine ⟨h', q6, ?_, sx_trans f2 e2⟩
    rw [fo, ← e, b115_150, if_neg (le3 (by omega)), b115_156, f1, rI_some, b115_171, nI_1]
    rfl
theorem r_paintsOf (w : HM h n sl P Q K E) {a b : Nat} (ha : a < n) (hb : b < n) : ∃ h', Rt 82 [.ref 27, .int (nI a), .int (nI b)] h = some (some (.int (nI (ptA n sl P Q K a b).2)), h') ∧ Sx [7] h h' := by
  obtain ⟨h2, f1, f2, f3⟩ := r_basesOf w ha hb
  refine ⟨h2, ?_, f2⟩
  show Ev 82 0 [some (.ref 27), some (.int (nI a)), some (.int (nI b))] [] h = _
  rw [b82_0, f1, rL_some, b82_6]
  simp only [b82_11, b82_18, b82_22, f3, ite_self]
theorem r_waysOf (w : HM h n sl P Q K E) {a b : Nat} (ha : a < n) (hb : b < n) : ∃ h', Rt 85 [.ref 27, .int (nI a), .int (nI b)] h = some (some (.long ((dnA n P Q b).1 a)), h') ∧ Sx [8] h h' := by
  have h40 := w.2.2.2.2.2.2.1
  obtain ⟨h2, f1, f2, f3, f4⟩ := r_goesDown w hb
  refine ⟨h2, ?_, f2⟩
  show Ev 85 0 [some (.ref 27), some (.int (nI a)), some (.int (nI b))] [] h = _
  simp (disch := omega) only [b85_0, b85_5, b85_11, e10, e01, em10, eq_self, lt0_nI, ge0_nI, cl_nI, le_nI, lt_nI, eq_nI, ne_m1, le40, lt40, gd_nI, nI_1, yle, nle, ylt, nlt, reduceIte, if_true, if_false, and_true, true_and, and_false, false_and, or_true, true_or, or_false, false_or, not_true_eq_false, not_false_eq_true, rI_some, rL_some, rV_some, rA_ref, rA_null, b01, b01', i01, lcmp0, lcmp_lt, lcmp_gt, om1, m1_lt0, f1, f3 a ha]
theorem r_farOf (w : HM h n sl P Q K E) {a b : Nat} (ha : a < n) (hb : b < n) : ∃ h', Rt 87 [.ref 27, .int (nI a), .int (nI b)] h = some (some (.int ((dnA n P Q b).2 a)), h') ∧ Sx [8] h h' := by
  have h40 := w.2.2.2.2.2.2.1
  obtain ⟨h2, f1, f2, f3, f4⟩ := r_goesDown w hb
  refine ⟨h2, ?_, f2⟩
  show Ev 87 0 [some (.ref 27), some (.int (nI a)), some (.int (nI b))] [] h = _
  simp (disch := omega) only [b87_0, b87_5, b87_11, e10, e01, em10, eq_self, lt0_nI, ge0_nI, cl_nI, le_nI, lt_nI, eq_nI, ne_m1, le40, lt40, gd_nI, nI_1, yle, nle, ylt, nlt, reduceIte, if_true, if_false, and_true, true_and, and_false, false_and, or_true, true_or, or_false, false_or, not_true_eq_false, not_false_eq_true, rI_some, rL_some, rV_some, rA_ref, rA_null, b01, b01', i01, lcmp0, lcmp_lt, lcmp_gt, om1, m1_lt0, f1, f4 a ha]
theorem r_tellsCommit (w : HM h n sl P Q K E) (he : gI h 27 13 = nI ev) (v1 : 1 ≤ ev) (v2 : ev ≤ 10) {a b : Nat} (ha : a < n) (hb : b < n) (z : Int64) : ∃ h', Rt 115 [.ref 27, .long z, .int (nI a), .int (nI b)] h = some (some (.long (dgC n sl P Q K E b a (dgB ev P Q E a (dgA n sl P Q K (gI h 35) E a z)))), h') ∧ Sx [6, 7, 8] h h' := by
  have h40 := w.2.2.2.2.2.2.1
  obtain ⟨q1, e1⟩ := tl1 (fun j => cmB n sl P Q K (gI h 35) a (nI j)) (fun j hj => cm_m w ha (j5 (by omega))) z none (nI b) 6 0 z none rfl
  obtain ⟨q2, e2⟩ := tl2 (fun j => kpB ev E a (nI j)) (fun j hj => kp_m w he v1 v2 ha (nI j)) z none (nI b) 3 0 (dgA n sl P Q K (gI h 35) E a z) none rfl
  obtain ⟨q3, e3⟩ := tl3 (fun j => wkR ev P Q E a (nI j)) (fun j hj => r_walkBy w he v1 v2 ha (nI j)) z none (nI b) 3 0 (fo (fun j => (kpB ev E a (nI j)).toInt64) 3 0 (dgA n sl P Q K (gI h 35) E a z)) (kil q2) rfl
  obtain ⟨hA, a1, a2, _⟩ := r_basesOf w ha hb
  have wA := hm_sx w a2 (by decide)
  obtain ⟨hB, b1, b2⟩ := r_paintsOf wA ha hb
  have wB := hm_sx wA b2 (by decide)
  obtain ⟨hC, q4, e4, c2⟩ := tl4 ha hb z none 3 0 (31 * (31 * dgB ev P Q E a (dgA n sl P Q K (gI h 35) E a z) + (ptA n sl P Q K a b).1) + (nI (ptA n sl P Q K a b).2).toInt64) hB none rfl wB
  have wC := hm_sx wB c2 (by decide)
  obtain ⟨hD, d1, d2⟩ := r_waysOf wC ha hb
  have wD := hm_sx wC d2 (by decide)
  obtain ⟨hE, f1, f2⟩ := r_farOf wD ha hb
  have wE := hm_sx wD f2 (by decide)
  obtain ⟨hF, g1, g2, _⟩ := r_basesOf wE ha (show 0 < n by omega)
  have wF := hm_sx wE g2 (by decide)
  obtain ⟨hG, k1, k2⟩ := lk_m wF (show 0 < n by omega) ha (show 1 ≤ 2 by omega)
  have g1' : Rt 80 [.ref 27, .int (nI a), .int 0] hE = some (some (.long (ptA n sl P Q K a 0).1), hF) := g1
  have k1' : Rt 78 [.ref 27, .int 0, .int (nI a), .int 1] hF = some (some (.int (lkB n sl P Q K E 0 a 1)), hG) := k1
  refine ⟨hG, ?_, sx_trans (sx_mono a2 (by decide)) (sx_trans (sx_mono b2 (by decide)) (sx_trans (sx_mono c2 (by decide)) (sx_trans (sx_mono d2 (by decide)) (sx_trans (sx_mono f2 (by decide)) (sx_trans (sx_mono g2 (by decide)) (sx_mono k2 (by decide)))))))⟩
  show Ev 115 0 [some (.ref 27), some (.long z), none, some (.int (nI a)), some (.int (nI b)), none, none, none] [] h = _
  rw [b115_0]
  refine Eq.trans e1 ?_
  rw [b115_36, m_reach w ha, rL_some, b115_47]
  refine Eq.trans e2 ?_
  rw [b115_82]
  refine Eq.trans e3 ?_
  rw [b115_114, a1, rL_some, b115_127, b1, rI_some, b115_143]
  refine Eq.trans e4 ?_
  rw [b115_181, d1, rL_some, b115_194, f1, rI_some, b115_210, g1', rL_some, b115_226, k1', rI_some, b115_242]
  rfl
theorem md1 (F : Nat → Int32) (S : Tk) (g : Int64) (o4 : Option Value) : ∀ (k i : Nat) (z : Int64) (h : mH) (o2 : Option Value), i + k = 8 → HM h n sl P Q K E → Ix h n sl ly ev per → Tb n P Q K E per h = S → gB n E h = g → (∀ j, cnB h n sl ly S g j = F j) → (0 < k ∨ TM h g S.t S) → ∃ h' q2, Ev 116 6 [some (.ref 27), some (.long z), o2, some (.int (nI i)), o4] [] h = Ev 116 31 [some (.ref 27), some (.long (fo (fun j => (F j).toInt64) k i z)), q2, some (.int (nI 8)), o4] [] h' ∧ Sx [9] h h' ∧ TM h' g S.t S
  | 0, i, z, h, o2, hk, w, x, hS, hg, hF, ht => by
    obtain rfl : i = 8 := by omega
    exact ⟨h, o2, by rw [b116_6, if_pos (by decide)]; rfl, sx_refl _ _, ht.resolve_left (by omega)⟩
  | k + 1, i, z, h, o2, hk, w, x, hS, hg, hF, ht => by
    obtain ⟨h1, e1, e2, e3⟩ := r_mcount w x (show i ≤ 8 by omega)
    rw [hS, hg, hF] at e1
    rw [hS, hg] at e3
    have tb := tb_sx (n := n) (P := P) (Q := Q) (K := K) (E := E) (per := per) e2 (by decide)
    obtain ⟨h', q2, f1, f2, f3⟩ := md1 F S g o4 k (i + 1) (31 * z + (F i).toInt64) h1 none (by omega) (hm_sx w e2 (by decide)) (ix_sx e2 (by decide) x) (tb.1.trans hS) (tb.2.trans hg) (fun j => by rw [cnB_sx e2 (by decide)]; exact hF j) (Or.inr e3)
    refine ⟨h', q2, ?_, sx_trans e2 f2, f3⟩
    rw [fo, ← f1, b116_6, if_neg (show ¬ (8 : Int32) ≤ nI i from by rw [show (8 : Int32) = nI 8 from rfl, le_nI (by omega) (by omega)]; omega), b116_12, e1, rI_some, b116_22, nI_1]
theorem md2 (F : Nat → Int32) (hF : ∀ j, j < 10 → Rt 66 [.ref 27, .int (nI j)] h = some (some (.int (F j)), h)) (o4 : Option Value) : ∀ (k i : Nat) (z : Int64) (o2 : Option Value), i + k = 10 → ∃ q2, Ev 116 33 [some (.ref 27), some (.long z), o2, some (.int (nI i)), o4] [] h = Ev 116 58 [some (.ref 27), some (.long (fo (fun j => (F j).toInt64) k i z)), q2, some (.int (nI 10)), o4] [] h
  | 0, i, z, o2, hk => by
    obtain rfl : i = 10 := by omega
    exact ⟨o2, by rw [b116_33, if_pos (by decide)]; rfl⟩
  | k + 1, i, z, o2, hk => by
    obtain ⟨q2, e⟩ := md2 F hF o4 k (i + 1) (31 * z + (F i).toInt64) none (by omega)
    refine ⟨q2, ?_⟩
    rw [fo, ← e, b116_33, if_neg (show ¬ (10 : Int32) ≤ nI i from by rw [show (10 : Int32) = nI 10 from rfl, le_nI (by omega) (by omega)]; omega), b116_39, hF i (by omega), rI_some, b116_49, nI_1]
theorem md3 (v1 : 1 ≤ ev) (v2 : ev ≤ 10) (T : Nat → Int32) (o4 : Option Value) : ∀ (k c : Nat) (z : Int64) (h : mH) (o2 : Option Value), c + k = n → HM h n sl P Q K E → gI h 27 13 = nI ev → gI h 35 = T → ∃ h' q2, Ev 116 60 [some (.ref 27), some (.long z), o2, some (.int (nI c)), o4] [] h = Ev 116 87 [some (.ref 27), some (.long (dgL n sl ev P Q K T E k c z)), q2, some (.int (nI n)), o4] [] h' ∧ Sx [6, 7, 8] h h'
  | 0, c, z, h, o2, hk, w, he, hT => by
    obtain rfl : c = n := by omega
    have h40 := w.2.2.2.2.2.2.1
    refine ⟨h, o2, ?_, sx_refl _ _⟩
    rw [b116_60, w.1, if_pos (by rw [le_nI (by omega) (by omega)]; omega)]; rfl
  | k + 1, c, z, h, o2, hk, w, he, hT => by
    have h40 := w.2.2.2.2.2.2.1
    obtain ⟨hA, a1, a2⟩ := r_tellsCommit w he v1 v2 (show c < n by omega) (show n - 1 < n by omega) z
    rw [hT] at a1
    obtain ⟨h', q2, e1, e2⟩ := md3 v1 v2 T o4 k (c + 1) (dgC n sl P Q K E (n - 1) c (dgB ev P Q E c (dgA n sl P Q K T E c z))) hA none (by omega) (hm_sx w a2 (by decide)) (by rw [(a2 27 13 (by decide)).1]; exact he) (by rw [sx_fI a2 (fun j => by rw [rg35]; decide)]; exact hT)
    refine ⟨h', q2, ?_, sx_trans a2 e2⟩
    rw [dgL, ← e1, b116_60, w.1, if_neg (by rw [le_nI (by omega) (by omega)]; omega), b116_68, w.1, ni_1 (by omega), a1, rL_some, b116_80, nI_1]
theorem md4 (F : Nat → Int64) (hF : ∀ j, j < 5 → Rt 106 [.ref 27, .int (nI j)] h = some (some (.long (F j)), h)) (o4 : Option Value) : ∀ (k i : Nat) (z : Int64) (o2 : Option Value), i + k = 5 → ∃ q2, Ev 116 89 [some (.ref 27), some (.long z), o2, some (.int (nI i)), o4] [] h = Ev 116 112 [some (.ref 27), some (.long (fo F k i z)), q2, some (.int (nI 5)), o4] [] h
  | 0, i, z, o2, hk => by
    obtain rfl : i = 5 := by omega
    exact ⟨o2, by rw [b116_89, if_pos (by decide)]; rfl⟩
  | k + 1, i, z, o2, hk => by
    obtain ⟨q2, e⟩ := md4 F hF o4 k (i + 1) (31 * z + F i) none (by omega)
    refine ⟨q2, ?_⟩
    rw [fo, ← e, b116_89, if_neg (show ¬ (5 : Int32) ≤ nI i from by rw [show (5 : Int32) = nI 5 from rfl, le_nI (by omega) (by omega)]; omega), b116_94, hF i (by omega), rL_some, b116_104, nI_1]
theorem md5 (F : Nat → Int32) {a : Nat} (hF : ∀ j, j < 3 → Rt 109 [.ref 27, .int (nI a), .int (nI j)] h = some (some (.int (F j)), h)) : ∀ (k i : Nat) (z : Int64) (o2 : Option Value), i + k = 3 → ∃ q2, Ev 116 123 [some (.ref 27), some (.long z), o2, some (.int (nI a)), some (.int (nI i))] [] h = Ev 116 150 [some (.ref 27), some (.long (fo (fun j => (F j).toInt64) k i z)), q2, some (.int (nI a)), some (.int (nI 3))] [] h
  | 0, i, z, o2, hk => by
    obtain rfl : i = 3 := by omega
    exact ⟨o2, by rw [b116_123, if_pos (by decide)]; rfl⟩
  | k + 1, i, z, o2, hk => by
    obtain ⟨q2, e⟩ := md5 F hF k (i + 1) (31 * z + (F i).toInt64) none (by omega)
    refine ⟨q2, ?_⟩
    rw [fo, ← e, b116_123, if_neg (le3 (by omega)), b116_129, hF i (by omega), rI_some, b116_141, nI_1]
theorem md6 (G : Nat → Nat → Int32) (hG : ∀ i j, i < 40 → j < 3 → Rt 109 [.ref 27, .int (nI i), .int (nI j)] h = some (some (.int (G i j)), h)) : ∀ (k i : Nat) (z : Int64) (o2 o4 : Option Value), i + k = 40 → ∃ q2 q4, Ev 116 114 [some (.ref 27), some (.long z), o2, some (.int (nI i)), o4] [] h = Ev 116 156 [some (.ref 27), some (.long (fx G k i z)), q2, some (.int (nI 40)), q4] [] h
  | 0, i, z, o2, o4, hk => by
    obtain rfl : i = 40 := by omega
    exact ⟨o2, o4, by rw [b116_114, if_pos (by decide)]; rfl⟩
  | k + 1, i, z, o2, o4, hk => by
    obtain ⟨p2, e1⟩ := md5 (G i) (fun j hj => hG i j (by omega) hj) 3 0 z o2 rfl
    obtain ⟨q2, q4, e⟩ := md6 G hG k (i + 1) (fo (fun j => (G i j).toInt64) 3 0 z) (kil p2) (some (.int (nI 3))) (by omega)
    refine ⟨q2, q4, ?_⟩
    rw [fx, ← e, b116_114, if_neg (by rw [le40 (by omega)]; omega), b116_120]
    refine Eq.trans e1 ?_
    rw [b116_150, nI_1]
theorem r_mdigest (m : HM h n sl P Q K E) (x : Ix h n sl ly ev per) : ∃ h', Rt 116 [.ref 27] h = some (some (.long (dgZ n sl ly ev per P Q K E h)), h') ∧ Sx [6, 7, 8, 9] h h' := by
  have h40 := m.2.2.2.2.2.2.1
  have hsl := m.2.2.1
  have wf := m.2.2.2.2.2.2
  have t := tk_i wf x
  obtain ⟨h1, q1, e1, e2, e3⟩ := md1 (fun j => cnB h n sl ly (Tb n P Q K E per h) (gB n E h) j) (Tb n P Q K E per h) (gB n E h) none 8 0 17 h none rfl m x rfl rfl (fun _ => rfl) (Or.inl (by omega))
  have m1 := hm_sx m e2 (by decide)
  have x1 := ix_sx e2 (by decide) x
  have k4 : gI h1 4 = gI h 4 := sx_fI e2 (fun j => by rw [rg4]; decide)
  have k7 : gI h1 7 = gI h 7 := sx_fI e2 (fun j => by rw [rg7]; decide)
  obtain ⟨q2, f1⟩ := md2 (fun j => lyB h ly j) (fun j hj => by rw [r_layerBy x1.2.2.2.1 x1.2.1 (by have := x1.2.2.2.2.1; omega) (by omega), lyB, lyB, k7]) none 10 0 (fo (fun j => (cnB h n sl ly (Tb n P Q K E per h) (gB n E h) j).toInt64) 8 0 17) (kil q1) rfl
  obtain ⟨h2, q3, g1, g2⟩ := md3 x1.2.2.2.2.2.2.2.1 x1.2.2.2.2.2.2.2.2.1 (gI h 4) none n 0 (fo (fun j => (lyB h ly j).toInt64) 10 0 (fo (fun j => (cnB h n sl ly (Tb n P Q K E per h) (gB n E h) j).toInt64) 8 0 17)) h1 (kil q2) (by omega) m1 x1.2.2.2.2.2.2.1 (by rw [x1.1, k4])
  have m2 := hm_sx m1 g2 (by decide)
  have x2 := ix_sx g2 (by decide) x1
  have tm := tm_sx e3 g2
  have k16 : gJ h2 27 16 = gJ h 15 0 := by rw [x2.2.2.2.2.2.2.2.2.2.2.2.2.2.2.1, (g2 15 0 (by decide)).2, (e2 15 0 (by decide)).2]
  have k17 : gJ h2 27 17 = gJ h 15 1 := by rw [x2.2.2.2.2.2.2.2.2.2.2.2.2.2.2.2.1, (g2 15 1 (by decide)).2, (e2 15 1 (by decide)).2]
  have k35 : gI h2 35 = gI h 4 := by rw [x2.1, sx_fI g2 (fun j => by rw [rg4]; decide), k4]
  obtain ⟨q4, j1⟩ := md4 (fun j => stB (gJ h 15 0) (gJ h 15 1) (gB n E h) (Tb n P Q K E per h).cm (nI j)) (fun j hj => by rw [r_setBy, k16, k17, tm.1, tm.2.2.2.1]) none 5 0 (dgL n sl ev P Q K (gI h 4) E n 0 (fo (fun j => (lyB h ly j).toInt64) 10 0 (fo (fun j => (cnB h n sl ly (Tb n P Q K E per h) (gB n E h) j).toInt64) 8 0 17))) (kil q3) rfl
  obtain ⟨q5, q6, l1⟩ := md6 (fun i j => toB (Tb n P Q K E per h) (gB n E h) i (nI j)) (fun i j hi hj => r_toldBy tm t h40 (by omega) (nI j)) 40 0 (fo (fun j => stB (gJ h 15 0) (gJ h 15 1) (gB n E h) (Tb n P Q K E per h).cm (nI j)) 5 0 (dgL n sl ev P Q K (gI h 4) E n 0 (fo (fun j => (lyB h ly j).toInt64) 10 0 (fo (fun j => (cnB h n sl ly (Tb n P Q K E per h) (gB n E h) j).toInt64) 8 0 17)))) (kil q4) none rfl
  refine ⟨h2, ?_, sx_trans (sx_mono e2 (by decide)) (sx_mono g2 (by decide))⟩
  show Ev 116 0 [some (.ref 27), none, none, none, none] [] h = _
  rw [b116_0]
  refine Eq.trans e1 ?_
  rw [b116_31]
  refine Eq.trans f1 ?_
  rw [b116_58]
  refine Eq.trans g1 ?_
  rw [b116_87]
  refine Eq.trans j1 ?_
  rw [b116_112]
  refine Eq.trans l1 ?_
  rw [b116_156, r_thingsNow m2, rI_some, b116_165, tm.1, tm.2.2.2.1, k35]
  rfl
theorem dgZ_sx {R : List Nat} (a : Sx R h h') (hR : 0 ∉ R) : dgZ n sl ly ev per P Q K E h' = dgZ n sl ly ev per P Q K E h := by
  have tb := tb_sx (n := n) (P := P) (Q := Q) (K := K) (E := E) (per := per) a hR
  have k4 : gI h' 4 = gI h 4 := sx_fI a (fun j => by rw [rg4]; exact hR)
  have k7 : gI h' 7 = gI h 7 := sx_fI a (fun j => by rw [rg7]; exact hR)
  unfold dgZ
  rw [tb.1, tb.2, k4, (a 15 0 hR).2, (a 15 1 hR).2]
  simp only [cnB_sx a hR, lyB, k7]
theorem p_digest : Pr 30 116 [] := by
  intro h i
  have i' := i
  obtain ⟨n, sl, ly, ev, per, P, Q, K, E, c, m, x⟩ := i'
  obtain ⟨h1, e1, e2⟩ := r_cdigest c x
  obtain ⟨h2, f1, f2⟩ := r_mdigest (hm_sx m e2 (by decide)) (ix_sx e2 (by decide) x)
  rw [dgZ_sx e2 (by decide)] at f1
  exact pr_of h i e1 e2 (by decide) f1 f2 (by decide)
end DI
