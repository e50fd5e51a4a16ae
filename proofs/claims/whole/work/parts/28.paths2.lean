/-! Ways: the class's start, and the model. -/
def iniW (b : Nat) : Nat → Int64 := fun x => if x = b then 1 else 0
def iniS (b : Nat) : Nat → Int32 := fun x => if x = b then 0 else -1
theorem ps_congr {W W' : Nat → Int64} {S S' : Nat → Int32} {n c : Nat} {v : Int32} (hc : c < n) (hW : ∀ x, x < n → W x = W' x) (hS : ∀ x, x < n → S x = S' x) : (∀ x, x < n → psW W c v x = psW W' c v x) ∧ ∀ x, x < n → psS S c v x = psS S' c v x := by
  refine ⟨fun x hx => ?_, fun x hx => ?_⟩
  · unfold psW; rw [hW x hx, hW c hc]
  · unfold psS; rw [hS x hx, hS c hc]
theorem dn_congr (P Q : Nat → Int32) {n : Nat} : ∀ (d : Nat) (W W' : Nat → Int64) (S S' : Nat → Int32), d ≤ n → (∀ x, x < n → W x = W' x) → (∀ x, x < n → S x = S' x) → (∀ x, x < n → (dn P Q d W S).1 x = (dn P Q d W' S').1 x) ∧ ∀ x, x < n → (dn P Q d W S).2 x = (dn P Q d W' S').2 x := by
  intro d
  induction d with
  | zero => intro W W' S S' hd hW hS; exact ⟨hW, hS⟩
  | succ d ih =>
    intro W W' S S' hd hW hS
    unfold dn
    rw [← hS d (by omega)]
    by_cases h : S d = -1
    · rw [if_pos h, if_pos h]; exact ih _ _ _ _ (by omega) hW hS
    · rw [if_neg h, if_neg h]
      have h1 := ps_congr (c := d) (v := P d) (by omega) hW hS
      have h2 := ps_congr (c := d) (v := Q d) (by omega) h1.1 h1.2
      exact ih _ _ _ _ (by omega) h2.1 h2.2
theorem dn_skip (P Q : Nat → Int32) {b : Nat} : ∀ (k d : Nat) (W : Nat → Int64) (S : Nat → Int32), (∀ x, d ≤ x → x < d + k → S x = -1) → dn P Q (d + k) W S = dn P Q d W S
  | 0, d, W, S, _ => rfl
  | k + 1, d, W, S, h => by
    rw [show d + (k + 1) = (d + k) + 1 by omega, dn, if_pos (h (d + k) (by omega) (by omega))]
    exact dn_skip P Q (b := b) k d W S (fun x h1 h2 => h x h1 (by omega))
theorem iw_ini {b : Nat} (hb : b < 40) {n : Nat} (hn : n ≤ 40) : Iw b n (iniW b) (iniS b) := by
  intro x hx
  have h1 : 1 ≤ 2 ^ (40 - n) := Nat.one_le_two_pow
  by_cases hxb : x = b
  · refine ⟨1, by simp [iniW, hxb]; rfl, ?_, h1, Or.inr ⟨0, by simp [iniS, hxb]; rfl, by omega⟩⟩
    simp [iniS, hxb]
  · refine ⟨0, by simp [iniW, hxb]; rfl, by simp [iniS, hxb], by omega, Or.inl (by simp [iniS, hxb])⟩
theorem iw_congr {b n : Nat} {W W' : Nat → Int64} {S S' : Nat → Int32} (hW : ∀ x, x < n → W x = W' x) (hS : ∀ x, x < n → S x = S' x) (h : Iw b n W' S') : Iw b n W S := fun x hx => by
  rw [hW x hx, hS x hx]; exact h x hx
section PB
variable {n sl : Nat} {P Q K : Nat → Int32} {E : Nat → Int64}
theorem trace_ini {b : Nat} (hb : b < 40) : ∀ (k c : Nat) (h : mH), c + k = 40 → (∀ x, x < c → gJ h 12 x = iniW b x ∧ gI h 13 x = iniS b x) → ∃ h', Ev 155 2 [some (.ref 11), some (.ref 1), some (.int (nI b)), some (.int (nI c))] [] h = Ev 155 46 [some (.ref 11), some (.ref 1), some (.int (nI b)), some (.int (nI 40))] [] h' ∧ Sx [3] h h' ∧ ∀ x, x < 40 → gJ h' 12 x = iniW b x ∧ gI h' 13 x = iniS b x
  | 0, c, h, hk, hi => by
    obtain rfl : c = 40 := by omega
    refine ⟨h, ?_, sx_refl _ _, hi⟩
    rw [b155_2]
    simp (disch := omega) only [e10, e01, em10, eq_self, lt0_nI, ge0_nI, cl_nI, le_nI, lt_nI, eq_nI, ne_m1, le40, lt40, gd_nI, nI_1, yle, nle, ylt, nlt, reduceIte, if_true, if_false, and_true, true_and, and_false, false_and, or_true, true_or, or_false, false_or, not_true_eq_false, not_false_eq_true, rI_some, rL_some, rV_some, rA_ref, rA_null, b01, b01', i01, lcmp0, lcmp_lt, lcmp_gt, om1, m1_lt0]
  | k + 1, c, h, hk, hi => by
    obtain ⟨h1, e1⟩ : ∃ h1, h1 = sI (sJ h 12 c (iniW b c)) 13 c (iniS b c) := ⟨_, rfl⟩
    have s1 : Sx [3] h h1 := by rw [e1]; exact sx_sI (sx_sJ (sx_refl _ _) (by rw [rg12]; exact List.mem_singleton.mpr rfl)) (by rw [rg13]; exact List.mem_singleton.mpr rfl)
    obtain ⟨h', e, e2, e3⟩ := trace_ini hb k (c + 1) h1 (by omega) (fun x hx => by
      rw [e1]
      by_cases hxc : x = c
      · subst hxc; simp [gJ_sI, gJ_same, gI_same]
      · have := hi x (by omega)
        rw [gJ_sI, gJ_else (by omega), gI_else (by omega), gI_sJ]; exact this)
    refine ⟨h', ?_, sx_trans s1 e2, e3⟩
    rw [← e, b155_2, e1]
    by_cases hcb : c = b
    · subst hcb
      simp (disch := omega) only [b155_8, b155_18, b155_22, b155_23, b155_24, b155_34, b155_38, b155_39, b155_40, e10, e01, em10, eq_self, lt0_nI, ge0_nI, cl_nI, le_nI, lt_nI, eq_nI, ne_m1, le40, lt40, gd_nI, nI_1, yle, nle, ylt, nlt, reduceIte, if_true, if_false, and_true, true_and, and_false, false_and, or_true, true_or, or_false, false_or, not_true_eq_false, not_false_eq_true, rI_some, rL_some, rV_some, rA_ref, rA_null, b01, b01', i01, lcmp0, lcmp_lt, lcmp_gt, om1, m1_lt0, iniW, iniS]
    · simp (disch := omega) only [b155_8, b155_18, b155_22, b155_23, b155_24, b155_34, b155_38, b155_39, b155_40, e10, e01, em10, eq_self, lt0_nI, ge0_nI, cl_nI, le_nI, lt_nI, eq_nI, ne_m1, le40, lt40, gd_nI, nI_1, yle, nle, ylt, nlt, reduceIte, if_true, if_false, and_true, true_and, and_false, false_and, or_true, true_or, or_false, false_or, not_true_eq_false, not_false_eq_true, rI_some, rL_some, rV_some, rA_ref, rA_null, b01, b01', i01, lcmp0, lcmp_lt, lcmp_gt, om1, m1_lt0, iniW, iniS, hcb]
def dnA (n : Nat) (P Q : Nat → Int32) (b : Nat) : (Nat → Int64) × (Nat → Int32) := dn P Q n (iniW b) (iniS b)
theorem r_trace {h : mH} (w : HC h n sl P Q K E) {b : Nat} (hb : b < n) : ∃ h', Rt 155 [.ref 11, .ref 1, .int (nI b)] h = some (none, h') ∧ Sx [3] h h' ∧ (∀ x, x < n → gJ h' 12 x = (dnA n P Q b).1 x) ∧ ∀ x, x < n → gI h' 13 x = (dnA n P Q b).2 x := by
  have h40 := w.2.2.2.2.2.2.2.1
  obtain ⟨h1, e, e1, e2⟩ := trace_ini (b := b) (by omega) 40 0 h (by omega) (fun x hx => by omega)
  have w1 := hc_sx w e1 (by decide)
  have hW : ∀ x, x < n → gJ h1 12 x = iniW b x := fun x hx => (e2 x (by omega)).1
  have hS : ∀ x, x < n → gI h1 13 x = iniS b x := fun x hx => (e2 x (by omega)).2
  obtain ⟨h', f, f1, f2, f3⟩ := trace_loop (b := b) (by omega) n h1 (Nat.le_refl n) w1 (iw_congr hW hS (iw_ini (by omega) h40))
  have hd := dn_congr P Q n (gJ h1 12) (iniW b) (gI h1 13) (iniS b) (Nat.le_refl n) hW hS
  refine ⟨h', ?_, sx_trans e1 f1, fun x hx => by rw [f2]; exact hd.1 x hx, fun x hx => by rw [f3]; exact hd.2 x hx⟩
  show Ev 155 0 [some (.ref 11), some (.ref 1), some (.int (nI b)), none] [] h = _
  rw [b155_0]
  refine Eq.trans e ?_
  rw [b155_46, w1.1]
  exact f
theorem r_waysTo {h : mH} {c : Nat} (hc : c < 40) : Rt 157 [.ref 11, .int (nI c)] h = some (some (.long (gJ h 12 c)), h) := by
  show Ev 157 0 [some (.ref 11), some (.int (nI c))] [] h = _
  simp (disch := omega) only [b157_0, b157_4, b157_10, b157_16, b157_19, b157_20, e10, e01, em10, eq_self, lt0_nI, ge0_nI, cl_nI, le_nI, lt_nI, eq_nI, ne_m1, le40, lt40, gd_nI, nI_1, yle, nle, ylt, nlt, reduceIte, if_true, if_false, and_true, true_and, and_false, false_and, or_true, true_or, or_false, false_or, not_true_eq_false, not_false_eq_true, rI_some, rL_some, rV_some, rA_ref, rA_null, b01, b01', i01, lcmp0, lcmp_lt, lcmp_gt, om1, m1_lt0]
theorem r_stepsTo {h : mH} {c : Nat} (hc : c < 40) : Rt 158 [.ref 11, .int (nI c)] h = some (some (.int (gI h 13 c)), h) := by
  show Ev 158 0 [some (.ref 11), some (.int (nI c))] [] h = _
  simp (disch := omega) only [b158_0, b158_4, b158_10, b158_16, b158_19, b158_20, e10, e01, em10, eq_self, lt0_nI, ge0_nI, cl_nI, le_nI, lt_nI, eq_nI, ne_m1, le40, lt40, gd_nI, nI_1, yle, nle, ylt, nlt, reduceIte, if_true, if_false, and_true, true_and, and_false, false_and, or_true, true_or, or_false, false_or, not_true_eq_false, not_false_eq_true, rI_some, rL_some, rV_some, rA_ref, rA_null, b01, b01', i01, lcmp0, lcmp_lt, lcmp_gt, om1, m1_lt0]
/-- the model -/
theorem goes_ini {b : Nat} (hb : b < n) : ∀ (k c : Nat) (h : mH) (o3 o4 : Option Value), c + k = n → HM h n sl P Q K E → (∀ x, x < c → gJ h 38 x = iniW b x ∧ gI h 39 x = iniS b x) → ∃ h', Ev 84 2 [some (.ref 27), some (.int (nI b)), some (.int (nI c)), o3, o4] [] h = Ev 84 48 [some (.ref 27), some (.int (nI b)), some (.int (nI n)), o3, o4] [] h' ∧ Sx [8] h h' ∧ ∀ x, x < n → gJ h' 38 x = iniW b x ∧ gI h' 39 x = iniS b x
  | 0, c, h, o3, o4, hk, w, hi => by
    have h40 := w.2.2.2.2.2.2.1
    obtain rfl : c = n := by omega
    refine ⟨h, ?_, sx_refl _ _, hi⟩
    rw [b84_2, w.1]
    simp (disch := omega) only [e10, e01, em10, eq_self, lt0_nI, ge0_nI, cl_nI, le_nI, lt_nI, eq_nI, ne_m1, le40, lt40, gd_nI, nI_1, yle, nle, ylt, nlt, reduceIte, if_true, if_false, and_true, true_and, and_false, false_and, or_true, true_or, or_false, false_or, not_true_eq_false, not_false_eq_true, rI_some, rL_some, rV_some, rA_ref, rA_null, b01, b01', i01, lcmp0, lcmp_lt, lcmp_gt, om1, m1_lt0]
  | k + 1, c, h, o3, o4, hk, w, hi => by
    have h40 := w.2.2.2.2.2.2.1
    obtain ⟨h1, e1⟩ : ∃ h1, h1 = sI (sJ h 38 c (iniW b c)) 39 c (iniS b c) := ⟨_, rfl⟩
    have s1 : Sx [8] h h1 := by rw [e1]; exact sx_sI (sx_sJ (sx_refl _ _) (by rw [rg38]; exact List.mem_singleton.mpr rfl)) (by rw [rg39]; exact List.mem_singleton.mpr rfl)
    obtain ⟨h', e, e2, e3⟩ := goes_ini hb k (c + 1) h1 o3 o4 (by omega) (hm_sx w s1 (by decide)) (fun x hx => by
      rw [e1]
      by_cases hxc : x = c
      · subst hxc; simp [gJ_sI, gJ_same, gI_same]
      · have := hi x (by omega)
        rw [gJ_sI, gJ_else (by omega), gI_else (by omega), gI_sJ]; exact this)
    refine ⟨h', ?_, sx_trans s1 e2, e3⟩
    rw [← e, b84_2, e1, w.1]
    by_cases hcb : c = b
    · subst hcb
      simp (disch := omega) only [b84_10, b84_20, b84_24, b84_25, b84_26, b84_36, b84_40, b84_41, b84_42, e10, e01, em10, eq_self, lt0_nI, ge0_nI, cl_nI, le_nI, lt_nI, eq_nI, ne_m1, le40, lt40, gd_nI, nI_1, yle, nle, ylt, nlt, reduceIte, if_true, if_false, and_true, true_and, and_false, false_and, or_true, true_or, or_false, false_or, not_true_eq_false, not_false_eq_true, rI_some, rL_some, rV_some, rA_ref, rA_null, b01, b01', i01, lcmp0, lcmp_lt, lcmp_gt, om1, m1_lt0, iniW, iniS]
    · simp (disch := omega) only [b84_10, b84_20, b84_24, b84_25, b84_26, b84_36, b84_40, b84_41, b84_42, e10, e01, em10, eq_self, lt0_nI, ge0_nI, cl_nI, le_nI, lt_nI, eq_nI, ne_m1, le40, lt40, gd_nI, nI_1, yle, nle, ylt, nlt, reduceIte, if_true, if_false, and_true, true_and, and_false, false_and, or_true, true_or, or_false, false_or, not_true_eq_false, not_false_eq_true, rI_some, rL_some, rV_some, rA_ref, rA_null, b01, b01', i01, lcmp0, lcmp_lt, lcmp_gt, om1, m1_lt0, iniW, iniS, hcb]
theorem r_lesser (a b : Int32) (h : mH) : Rt 47 [.int a, .int b] h = some (some (.int (if a < b then a else b)), h) := by
  show Ev 47 0 [some (.int a), some (.int b)] [] h = _
  simp only [b47_0, b47_5, b47_9, b47_10]
  by_cases hb : a < b
  · rw [if_pos hb, if_neg (Int32.not_le.mpr hb)]
  · rw [if_neg hb, if_pos (Int32.not_lt.mp hb)]
theorem r_greater (a b : Int32) (h : mH) : Rt 48 [.int a, .int b] h = some (some (.int (if b < a then a else b)), h) := by
  show Ev 48 0 [some (.int a), some (.int b)] [] h = _
  simp only [b48_0, b48_5, b48_9, b48_10]
  by_cases hb : b < a
  · rw [if_pos hb, if_neg (Int32.not_le.mpr hb)]
  · rw [if_neg hb, if_pos (Int32.not_lt.mp hb)]
theorem goes_side {h : mH} {c : Nat} (hc : c < 40) {v sd : Int32} (hv : okp v c) (hpar : Rt 73 [.ref 27, .int (nI c), .int sd] h = some (some (.int v), h)) (hS : ¬ gI h 39 c = -1) (x1 : Int32) (o4 : Option Value) : ∃ h' q4, Ev 84 61 [some (.ref 27), some (.int x1), some (.int (nI c)), some (.int sd), o4] [] h = Ev 84 56 [some (.ref 27), some (.int x1), some (.int (nI c)), some (.int (sd + 1)), q4] [] h' ∧ Sx [8] h h' ∧ gJ h' 38 = psW (gJ h 38) c v ∧ gI h' 39 = psS (gI h 39) c v := by
  rcases hv with rfl | ⟨p, hp, rfl⟩
  · refine ⟨h, some (.int (-1)), ?_, sx_refl _ _, by rw [psW_m1], by rw [psS_m1]⟩
    simp (disch := omega) only [b84_61, b84_67, b84_148, e10, e01, em10, eq_self, lt0_nI, ge0_nI, cl_nI, le_nI, lt_nI, eq_nI, ne_m1, le40, lt40, gd_nI, nI_1, yle, nle, ylt, nlt, reduceIte, if_true, if_false, and_true, true_and, and_false, false_and, or_true, true_or, or_false, false_or, not_true_eq_false, not_false_eq_true, rI_some, rL_some, rV_some, rA_ref, rA_null, b01, b01', i01, lcmp0, lcmp_lt, lcmp_gt, om1, m1_lt0, hpar]
  · have m12 : ∀ j, rg 38 j ∈ [8] := fun j => by rw [rg38]; exact List.mem_singleton.mpr rfl
    have m13 : ∀ j, rg 39 j ∈ [8] := fun j => by rw [rg39]; exact List.mem_singleton.mpr rfl
    rw [psW_nI _ _ (by omega), psS_nI _ _ (by omega)]
    have eW : ∀ x, gJ (sJ h 38 p x) 38 = fun j => if j = p then x else gJ h 38 j := fun x => by funext j; rw [gJ_sJ]; simp
    have eI : ∀ (h : mH) x, gI (sI h 39 p x) 39 = fun j => if j = p then x else gI h 39 j := fun h x => by funext j; rw [gI_sI]; simp
    refine ⟨sI (sJ h 38 p (gJ h 38 p + gJ h 38 c)) 39 p (if gI h 39 p = -1 ∨ gI h 39 c + 1 < gI h 39 p then gI h 39 c + 1 else gI h 39 p), some (.int (nI p)), ?_, sx_sI (sx_sJ (sx_refl _ _) (m12 _)) (m13 _), ?_, ?_⟩
    · by_cases h1 : gI h 39 p = -1
      · simp (disch := omega) only [b84_61, b84_67, b84_75, b84_81, b84_85, b84_93, b84_99, b84_101, b84_114, b84_118, b84_124, b84_147, b84_148, e10, e01, em10, eq_self, lt0_nI, ge0_nI, cl_nI, le_nI, lt_nI, eq_nI, ne_m1, le40, lt40, gd_nI, nI_1, yle, nle, ylt, nlt, reduceIte, if_true, if_false, and_true, true_and, and_false, false_and, or_true, true_or, or_false, false_or, not_true_eq_false, not_false_eq_true, rI_some, rL_some, rV_some, rA_ref, rA_null, b01, b01', i01, lcmp0, lcmp_lt, lcmp_gt, om1, m1_lt0, hpar, hS, gI_sJ, h1]
      · rw [show (if gI h 39 p = -1 ∨ gI h 39 c + 1 < gI h 39 p then gI h 39 c + 1 else gI h 39 p) = (if gI h 39 c + 1 < gI h 39 p then gI h 39 c + 1 else gI h 39 p) from by simp only [h1, false_or]]
        have hl := r_lesser (gI h 39 c + 1) (gI h 39 p) (sJ h 38 p (gJ h 38 p + gJ h 38 c))
        generalize (if gI h 39 c + 1 < gI h 39 p then gI h 39 c + 1 else gI h 39 p) = z at hl ⊢
        simp (disch := omega) only [b84_61, b84_67, b84_75, b84_81, b84_85, b84_93, b84_99, b84_101, b84_114, b84_129, b84_135, b84_144, e10, e01, em10, eq_self, lt0_nI, ge0_nI, cl_nI, le_nI, lt_nI, eq_nI, ne_m1, le40, lt40, gd_nI, nI_1, yle, nle, ylt, nlt, reduceIte, if_true, if_false, and_true, true_and, and_false, false_and, or_true, true_or, or_false, false_or, not_true_eq_false, not_false_eq_true, rI_some, rL_some, rV_some, rA_ref, rA_null, b01, b01', i01, lcmp0, lcmp_lt, lcmp_gt, om1, m1_lt0, hpar, hS, gI_sJ, h1, hl]
        simp (disch := omega) only [b84_147, b84_148, e10, e01, em10, eq_self, lt0_nI, ge0_nI, cl_nI, le_nI, lt_nI, eq_nI, ne_m1, le40, lt40, gd_nI, nI_1, yle, nle, ylt, nlt, reduceIte, if_true, if_false, and_true, true_and, and_false, false_and, or_true, true_or, or_false, false_or, not_true_eq_false, not_false_eq_true, rI_some, rL_some, rV_some, rA_ref, rA_null, b01, b01', i01, lcmp0, lcmp_lt, lcmp_gt, om1, m1_lt0]
    · show gJ (sJ h 38 p _) 38 = _
      rw [eW]; funext j
      by_cases hj : j = p
      · subst hj; simp
      · simp [hj]
    · rw [eI]; funext j
      by_cases hj : j = p
      · subst hj; simp
      · simp [hj, gI_sJ]
theorem goes_loop {b : Nat} (x1 : Int32) : ∀ (d : Nat) (h : mH) (o3 o4 : Option Value), d < n → HM h n sl P Q K E → ∃ h', Ev 84 50 [some (.ref 27), some (.int x1), some (.int (nI d)), o3, o4] [] h = some (none, h') ∧ Sx [8] h h' ∧ gJ h' 38 = (dn P Q (d + 1) (gJ h 38) (gI h 39)).1 ∧ gI h' 39 = (dn P Q (d + 1) (gJ h 38) (gI h 39)).2 := by
  intro d
  -- one turn
  have turn : ∀ (d : Nat) (h : mH) (o3 o4 : Option Value), d < n → HM h n sl P Q K E → ∃ h' q3 q4, Ev 84 54 [some (.ref 27), some (.int x1), some (.int (nI d)), o3, o4] [] h = Ev 84 50 [some (.ref 27), some (.int x1), some (.int (nI d + -1)), q3, q4] [] h' ∧ Sx [8] h h' ∧ dn P Q (d + 1) (gJ h 38) (gI h 39) = dn P Q d (gJ h' 38) (gI h' 39) := by
    intro d h o3 o4 hd w
    have h40 := w.2.2.2.2.2.2.1
    have hwf := w.2.2.2.2.2.2.2 d hd
    by_cases hS : gI h 39 d = -1
    · have none_side : ∀ (sd v : Int32) (o4 : Option Value), Rt 73 [.ref 27, .int (nI d), .int sd] h = some (some (.int v), h) → Ev 84 61 [some (.ref 27), some (.int x1), some (.int (nI d)), some (.int sd), o4] [] h = Ev 84 56 [some (.ref 27), some (.int x1), some (.int (nI d)), some (.int (sd + 1)), some (.int v)] [] h := by
        intro sd v o4 hpar
        by_cases hv : v = -1
        · simp (disch := omega) only [b84_61, b84_67, b84_148, e10, e01, em10, eq_self, lt0_nI, ge0_nI, cl_nI, le_nI, lt_nI, eq_nI, ne_m1, le40, lt40, gd_nI, nI_1, yle, nle, ylt, nlt, reduceIte, if_true, if_false, and_true, true_and, and_false, false_and, or_true, true_or, or_false, false_or, not_true_eq_false, not_false_eq_true, rI_some, rL_some, rV_some, rA_ref, rA_null, b01, b01', i01, lcmp0, lcmp_lt, lcmp_gt, om1, m1_lt0, hpar, hv]
        · simp (disch := omega) only [b84_61, b84_67, b84_75, b84_81, b84_148, e10, e01, em10, eq_self, lt0_nI, ge0_nI, cl_nI, le_nI, lt_nI, eq_nI, ne_m1, le40, lt40, gd_nI, nI_1, yle, nle, ylt, nlt, reduceIte, if_true, if_false, and_true, true_and, and_false, false_and, or_true, true_or, or_false, false_or, not_true_eq_false, not_false_eq_true, rI_some, rL_some, rV_some, rA_ref, rA_null, b01, b01', i01, lcmp0, lcmp_lt, lcmp_gt, om1, m1_lt0, hpar, hv, hS]
      refine ⟨h, some (.int 2), some (.int (Q d)), ?_, sx_refl _ _, by rw [dn, if_pos hS]⟩
      rw [b84_54, b84_56, if_neg (show ¬ (2 : Int32) ≤ 0 by decide), none_side 0 _ _ (m_parent0 w hd), a01, b84_56, if_neg (show ¬ (2 : Int32) ≤ 1 by decide), none_side 1 _ _ (m_parent1 w hd), a11, b84_56, if_pos (show (2 : Int32) ≤ 2 by decide), b84_154, om1]
    · obtain ⟨h1, q4, e1, e2, e3, e4⟩ := goes_side (show d < 40 by omega) (sd := 0) hwf.1 (m_parent0 w hd) hS x1 o4
      have w1 := hm_sx w e2 (by decide)
      have hS1 : ¬ gI h1 39 d = -1 := by rw [e4, (ps_at (W := gJ h 38) hwf.1 (by omega)).2]; exact hS
      obtain ⟨h2, r4, f1, f2, f3, f4⟩ := goes_side (show d < 40 by omega) (sd := 1) hwf.2.1 (m_parent1 w1 hd) hS1 x1 q4
      refine ⟨h2, some (.int 2), r4, ?_, sx_trans e2 f2, by rw [dn, if_neg hS, f3, f4, e3, e4]⟩
      rw [b84_54, b84_56, if_neg (show ¬ (2 : Int32) ≤ 0 by decide), e1, a01, b84_56, if_neg (show ¬ (2 : Int32) ≤ 1 by decide), f1, a11, b84_56, if_pos (show (2 : Int32) ≤ 2 by decide), b84_154, om1]
  induction d with
  | zero =>
    intro h o3 o4 hd w
    obtain ⟨h1, q3, q4, e1, e2, e3⟩ := turn 0 h o3 o4 hd w
    refine ⟨h1, ?_, e2, by rw [e3]; rfl, by rw [e3]; rfl⟩
    rw [b84_50, if_neg (nI_pos (by omega)), e1, show nI 0 + -1 = -1 from by decide, b84_50, if_pos (show (-1 : Int32) < 0 by decide), b84_160]
  | succ d ih =>
    intro h o3 o4 hd w
    obtain ⟨h1, q3, q4, e1, e2, e3⟩ := turn (d + 1) h o3 o4 hd w
    obtain ⟨h', f, f1, f2, f3⟩ := ih h1 q3 q4 (by omega) (hm_sx w e2 (by decide))
    have h40 := w.2.2.2.2.2.2.1
    refine ⟨h', ?_, sx_trans e2 f1, by rw [e3]; exact f2, by rw [e3]; exact f3⟩
    rw [b84_50, if_neg (nI_pos (by omega)), e1, nI_m1]
    exact f
theorem r_goesDown {h : mH} (w : HM h n sl P Q K E) {b : Nat} (hb : b < n) : ∃ h', Rt 84 [.ref 27, .int (nI b)] h = some (none, h') ∧ Sx [8] h h' ∧ (∀ x, x < n → gJ h' 38 x = (dnA n P Q b).1 x) ∧ ∀ x, x < n → gI h' 39 x = (dnA n P Q b).2 x := by
  have h40 := w.2.2.2.2.2.2.1
  obtain ⟨h1, e, e1, e2⟩ := goes_ini hb n 0 h none none (by omega) w (fun x hx => by omega)
  have w1 := hm_sx w e1 (by decide)
  obtain ⟨h', f, f1, f2, f3⟩ := goes_loop (b := b) (nI b) b h1 none none hb w1
  have hW : ∀ x, x < n → gJ h1 38 x = iniW b x := fun x hx => (e2 x hx).1
  have hS : ∀ x, x < n → gI h1 39 x = iniS b x := fun x hx => (e2 x hx).2
  have hd := dn_congr P Q (b + 1) (gJ h1 38) (iniW b) (gI h1 39) (iniS b) (by omega) hW hS
  have hsk : dnA n P Q b = dn P Q (b + 1) (iniW b) (iniS b) := by
    unfold dnA
    have := dn_skip P Q (b := b) (n - (b + 1)) (b + 1) (iniW b) (iniS b) (fun x h1 _ => by simp [iniS, show ¬ x = b by omega])
    rw [show b + 1 + (n - (b + 1)) = n by omega] at this
    exact this
  refine ⟨h', ?_, sx_trans e1 f1, fun x hx => by rw [hsk, f2]; exact hd.1 x hx, fun x hx => by rw [hsk, f3]; exact hd.2 x hx⟩
  show Ev 84 0 [some (.ref 27), some (.int (nI b)), none, none, none] [] h = _
  rw [b84_0]
  refine Eq.trans e ?_
  rw [b84_48]
  exact f
end PB
