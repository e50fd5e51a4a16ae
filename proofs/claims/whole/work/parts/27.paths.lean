/-! Ways, and the shortest. -/
def psW (W : Nat → Int64) (c : Nat) (v : Int32) : Nat → Int64 := fun x => if ¬ v = -1 ∧ x = v.toNatClampNeg then W x + W c else W x
def psS (S : Nat → Int32) (c : Nat) (v : Int32) : Nat → Int32 := fun x => if ¬ v = -1 ∧ x = v.toNatClampNeg then (if S x = -1 ∨ S c + 1 < S x then S c + 1 else S x) else S x
def dn (P Q : Nat → Int32) : Nat → (Nat → Int64) → (Nat → Int32) → (Nat → Int64) × (Nat → Int32)
  | 0, W, S => (W, S)
  | d + 1, W, S => if S d = -1 then dn P Q d W S else dn P Q d (psW (psW W d (P d)) d (Q d)) (psS (psS S d (P d)) d (Q d))
theorem psW_m1 (W : Nat → Int64) (c : Nat) : psW W c (-1) = W := by funext x; simp [psW]
theorem psS_m1 (S : Nat → Int32) (c : Nat) : psS S c (-1) = S := by funext x; simp [psS]
theorem psW_nI (W : Nat → Int64) (c : Nat) {p : Nat} (hp : p < 2147483648) : psW W c (nI p) = fun x => if x = p then W x + W c else W x := by
  funext x
  unfold psW
  rw [cl_nI hp]
  simp [ne_m1 hp]
theorem psS_nI (S : Nat → Int32) (c : Nat) {p : Nat} (hp : p < 2147483648) : psS S c (nI p) = fun x => if x = p then (if S x = -1 ∨ S c + 1 < S x then S c + 1 else S x) else S x := by
  funext x
  unfold psS
  rw [cl_nI hp]
  simp [ne_m1 hp]
/-- as many ways as there are, and where there is one there is a shortest -/
def Iw (b d : Nat) (W : Nat → Int64) (S : Nat → Int32) : Prop := ∀ x, x < d → ∃ m, W x = lN m ∧ (S x = -1 ↔ m = 0) ∧ m ≤ 2 ^ (40 - d) ∧ (S x = -1 ∨ ∃ s, S x = nI s ∧ s + x ≤ b)
section PA
variable {n sl : Nat} {P Q K : Nat → Int32} {E : Nat → Int64}
theorem ps_at {W : Nat → Int64} {S : Nat → Int32} {c : Nat} {v : Int32} (hv : okp v c) (hc : c ≤ 40) : psW W c v c = W c ∧ psS S c v c = S c := by
  rcases hv with rfl | ⟨p, hp, rfl⟩
  · rw [psW_m1, psS_m1]; exact ⟨rfl, rfl⟩
  · rw [psW_nI _ _ (by omega), psS_nI _ _ (by omega)]
    simp [show ¬ c = p by omega]
theorem iw_step (w : WF n P Q K E) {b d : Nat} (hd : d < n) (hb : b < 40) {W : Nat → Int64} {S : Nat → Int32} (hI : Iw b (d + 1) W S) (hS : ¬ S d = -1) : Iw b d (psW (psW W d (P d)) d (Q d)) (psS (psS S d (P d)) d (Q d)) := by
  obtain ⟨hP, hQ, hPQ, -⟩ := w.2 d hd
  have h40 := w.1
  obtain ⟨mc, c1, c2, c3, c4⟩ := hI d (by omega)
  have hmc : mc ≠ 0 := fun q => hS (c2.mpr q)
  obtain ⟨sc, c5, c6⟩ := c4.resolve_left hS
  have hpow : 2 ^ (40 - d) = 2 * 2 ^ (40 - (d + 1)) := by
    rw [show 40 - d = (40 - (d + 1)) + 1 by omega, Nat.pow_succ]; omega
  have hbig : 2 ^ (40 - (d + 1)) ≤ 2 ^ 40 := Nat.pow_le_pow_right (by decide) (by omega)
  -- one side
  have side : ∀ (W' : Nat → Int64) (S' : Nat → Int32) (v : Int32), okp v d → W' d = W d → S' d = S d → ∀ x, x < d → (∃ m, W' x = lN m ∧ (S' x = -1 ↔ m = 0) ∧ m ≤ 2 ^ (40 - (d + 1)) ∧ (S' x = -1 ∨ ∃ s, S' x = nI s ∧ s + x ≤ b)) → (¬ v = nI x → psW W' d v x = W' x ∧ psS S' d v x = S' x) ∧ (v = nI x → ∃ m, psW W' d v x = lN m ∧ (psS S' d v x = -1 ↔ m = 0) ∧ m ≤ 2 ^ (40 - d) ∧ (psS S' d v x = -1 ∨ ∃ s, psS S' d v x = nI s ∧ s + x ≤ b)) := by
    intro W' S' v hv eW eS x hx ⟨m, m1, m2, m3, m4⟩
    rcases hv with rfl | ⟨p, hp, rfl⟩
    · rw [psW_m1, psS_m1]
      refine ⟨fun _ => ⟨rfl, rfl⟩, fun q => ?_⟩
      have : nI x = -1 := q.symm
      rw [ne_m1 (by omega)] at this
      exact this.elim
    · rw [psW_nI _ _ (by omega), psS_nI _ _ (by omega), eq_nI (by omega) (by omega)]
      refine ⟨fun q => ?_, fun q => ?_⟩
      · simp [show ¬ x = p from fun z => q z.symm]
      · subst q
        simp only [if_true]
        refine ⟨m + mc, by rw [eW, m1, c1, lN_add], ?_, by omega, ?_⟩
        · refine ⟨fun z => ?_, fun z => by omega⟩
          exfalso
          split at z
          · rw [eS, c5, nI_1, ne_m1 (by omega)] at z; exact z
          · rename_i hz
            exact hz (Or.inl z)
        · right
          split
          · rw [eS, c5, nI_1]
            exact ⟨sc + 1, rfl, by omega⟩
          · rename_i hz
            exact m4.resolve_left (fun z => hz (Or.inl z))
  intro x hx
  have hx0 := hI x (by omega)
  have e1 := ps_at (W := W) (S := S) hP (by omega : d ≤ 40)
  have s1 := side W S (P d) hP rfl rfl x hx hx0
  by_cases hpx : P d = nI x
  · have hqx : ¬ Q d = nI x := fun z => by
      have := hPQ (hpx.trans z.symm)
      rw [hpx, ne_m1 (by omega)] at this; exact this
    obtain ⟨m, m1, m2, m3, m4⟩ := s1.2 hpx
    -- the second side leaves it
    have keep : ∀ (W' : Nat → Int64) (S' : Nat → Int32), psW W' d (Q d) x = W' x ∧ psS S' d (Q d) x = S' x := by
      intro W' S'
      rcases hQ with hq | ⟨q, hq, hq2⟩
      · rw [hq, psW_m1, psS_m1]; exact ⟨rfl, rfl⟩
      · rw [hq2, eq_nI (by omega) (by omega)] at hqx
        rw [hq2, psW_nI _ _ (by omega), psS_nI _ _ (by omega)]
        simp [show ¬ x = q from fun z => hqx z.symm]
    rw [(keep _ (psS S d (P d))).1, (keep (psW W d (P d)) _).2]
    exact ⟨m, m1, m2, m3, m4⟩
  · obtain ⟨k1, k2⟩ := s1.1 hpx
    have hx1 : ∃ m, psW W d (P d) x = lN m ∧ (psS S d (P d) x = -1 ↔ m = 0) ∧ m ≤ 2 ^ (40 - (d + 1)) ∧ (psS S d (P d) x = -1 ∨ ∃ s, psS S d (P d) x = nI s ∧ s + x ≤ b) := by rw [k1, k2]; exact hx0
    have s2 := side (psW W d (P d)) (psS S d (P d)) (Q d) hQ e1.1 e1.2 x hx hx1
    by_cases hqx : Q d = nI x
    · exact s2.2 hqx
    · obtain ⟨l1, l2⟩ := s2.1 hqx
      rw [l1, l2]
      obtain ⟨m, m1, m2, m3, m4⟩ := hx1
      exact ⟨m, m1, m2, by omega, m4⟩
theorem iw_down {b d : Nat} {W : Nat → Int64} {S : Nat → Int32} (hd : d < 40) (hI : Iw b (d + 1) W S) : Iw b d W S := fun x hx => by
  obtain ⟨m, m1, m2, m3, m4⟩ := hI x (by omega)
  have : 2 ^ (40 - (d + 1)) ≤ 2 ^ (40 - d) := Nat.pow_le_pow_right (by decide) (by omega)
  exact ⟨m, m1, m2, by omega, m4⟩
theorem iw_zero {b d : Nat} {W : Nat → Int64} {S : Nat → Int32} (hI : Iw b (d + 1) W S) : (W d = 0) = (S d = -1) := by
  obtain ⟨m, m1, m2, m3, m4⟩ := hI d (by omega)
  have hbig : 2 ^ (40 - (d + 1)) ≤ 2 ^ 40 := Nat.pow_le_pow_right (by decide) (by omega)
  have hb : (2 : Nat) ^ 40 = 1099511627776 := by decide
  rw [m1]
  refine propext (Iff.trans ?_ m2.symm)
  have := pk_lEQ (a := m) (b := 0) (by omega) (by omega)
  exact this
/-- the class passes on -/
theorem r_wpass {h : mH} {c : Nat} (hc : c < 40) {v : Int32} (hv : okp v c) : ∃ h', Rt 156 [.ref 11, .int (nI c), .int v] h = some (none, h') ∧ Sx [3] h h' ∧ gJ h' 12 = psW (gJ h 12) c v ∧ gI h' 13 = psS (gI h 13) c v := by
  show ∃ h', Ev 156 0 [some (.ref 11), some (.int (nI c)), some (.int v)] [] h = some (none, h') ∧ _
  rcases hv with rfl | ⟨p, hp, rfl⟩
  · refine ⟨h, ?_, sx_refl _ _, by rw [psW_m1], by rw [psS_m1]⟩
    simp only [b156_0, b156_10, e10, e01, em10, eq_self, lt0_nI, ge0_nI, cl_nI, le_nI, lt_nI, eq_nI, ne_m1, le40, lt40, gd_nI, nI_1, yle, nle, ylt, nlt, reduceIte, if_true, if_false, and_true, true_and, and_false, false_and, or_true, true_or, or_false, false_or, not_true_eq_false, not_false_eq_true, rI_some, rL_some, rV_some, rA_ref, rA_null, b01, b01', i01, lcmp0, lcmp_lt, lcmp_gt, om1, m1_lt0]
  · have m12 : ∀ j, rg 12 j ∈ [3] := fun j => by rw [rg12]; exact List.mem_singleton.mpr rfl
    have m13 : ∀ j, rg 13 j ∈ [3] := fun j => by rw [rg13]; exact List.mem_singleton.mpr rfl
    rw [psW_nI _ _ (by omega), psS_nI _ _ (by omega)]
    have eW : ∀ x, gJ (sJ h 12 p x) 12 = fun j => if j = p then x else gJ h 12 j := fun x => by funext j; rw [gJ_sJ]; simp
    have eI : ∀ (h : mH) x, gI (sI h 13 p x) 13 = fun j => if j = p then x else gI h 13 j := fun h x => by funext j; rw [gI_sI]; simp
    simp (disch := omega) only [b156_0, b156_4, b156_11, b156_18, b156_24, b156_26, b156_32, e10, e01, em10, eq_self, lt0_nI, ge0_nI, cl_nI, le_nI, lt_nI, eq_nI, ne_m1, le40, lt40, gd_nI, nI_1, yle, nle, ylt, nlt, reduceIte, if_true, if_false, and_true, true_and, and_false, false_and, or_true, true_or, or_false, false_or, not_true_eq_false, not_false_eq_true, rI_some, rL_some, rV_some, rA_ref, rA_null, b01, b01', i01, lcmp0, lcmp_lt, lcmp_gt, om1, m1_lt0, gI_sJ]
    by_cases h1 : gI h 13 p = -1
    · refine ⟨sI (sJ h 12 p (gJ h 12 p + gJ h 12 c)) 13 p (gI h 13 c + 1), ?_, sx_sI (sx_sJ (sx_refl _ _) (m12 _)) (m13 _), ?_, ?_⟩
      · simp (disch := omega) only [b156_53, b156_64, b156_67, e10, e01, em10, eq_self, lt0_nI, ge0_nI, cl_nI, le_nI, lt_nI, eq_nI, ne_m1, le40, lt40, gd_nI, nI_1, yle, nle, ylt, nlt, reduceIte, if_true, if_false, and_true, true_and, and_false, false_and, or_true, true_or, or_false, false_or, not_true_eq_false, not_false_eq_true, rI_some, rL_some, rV_some, rA_ref, rA_null, b01, b01', i01, lcmp0, lcmp_lt, lcmp_gt, om1, m1_lt0, h1, gI_sJ]
      · show gJ (sJ h 12 p _) 12 = _
        rw [eW]; funext j
        by_cases hj : j = p
        · subst hj; simp
        · simp [hj]
      · rw [eI]; funext j
        by_cases hj : j = p
        · subst hj; simp [h1]
        · simp [hj, gI_sJ]
    · by_cases h2 : gI h 13 p ≤ gI h 13 c + 1
      · refine ⟨sJ h 12 p (gJ h 12 p + gJ h 12 c), ?_, sx_sJ (sx_refl _ _) (m12 _), ?_, ?_⟩
        · simp (disch := omega) only [b156_36, b156_42, b156_48, b156_67, e10, e01, em10, eq_self, lt0_nI, ge0_nI, cl_nI, le_nI, lt_nI, eq_nI, ne_m1, le40, lt40, gd_nI, nI_1, yle, nle, ylt, nlt, reduceIte, if_true, if_false, and_true, true_and, and_false, false_and, or_true, true_or, or_false, false_or, not_true_eq_false, not_false_eq_true, rI_some, rL_some, rV_some, rA_ref, rA_null, b01, b01', i01, lcmp0, lcmp_lt, lcmp_gt, om1, m1_lt0, h1, h2, gI_sJ]
        · rw [eW]; funext j
          by_cases hj : j = p
          · subst hj; simp
          · simp [hj]
        · funext j
          show gI h 13 j = _
          by_cases hj : j = p
          · subst hj; simp [h1, Int32.not_lt.mpr h2]
          · simp [hj]
      · refine ⟨sI (sJ h 12 p (gJ h 12 p + gJ h 12 c)) 13 p (gI h 13 c + 1), ?_, sx_sI (sx_sJ (sx_refl _ _) (m12 _)) (m13 _), ?_, ?_⟩
        · simp (disch := omega) only [b156_36, b156_42, b156_48, b156_53, b156_64, b156_67, e10, e01, em10, eq_self, lt0_nI, ge0_nI, cl_nI, le_nI, lt_nI, eq_nI, ne_m1, le40, lt40, gd_nI, nI_1, yle, nle, ylt, nlt, reduceIte, if_true, if_false, and_true, true_and, and_false, false_and, or_true, true_or, or_false, false_or, not_true_eq_false, not_false_eq_true, rI_some, rL_some, rV_some, rA_ref, rA_null, b01, b01', i01, lcmp0, lcmp_lt, lcmp_gt, om1, m1_lt0, h1, h2, gI_sJ]
        · show gJ (sJ h 12 p _) 12 = _
          rw [eW]; funext j
          by_cases hj : j = p
          · subst hj; simp
          · simp [hj]
        · rw [eI]; funext j
          by_cases hj : j = p
          · subst hj; simp [Int32.not_le.mp h2]
          · simp [hj, gI_sJ]
theorem trace_loop {b : Nat} (hb : b < 40) : ∀ (d : Nat) (h : mH), d ≤ n → HC h n sl P Q K E → Iw b d (gJ h 12) (gI h 13) → ∃ h', Ev 155 53 [some (.ref 11), some (.ref 1), some (.int (nI b)), some (.int (nI d - 1))] [] h = some (none, h') ∧ Sx [3] h h' ∧ gJ h' 12 = (dn P Q d (gJ h 12) (gI h 13)).1 ∧ gI h' 13 = (dn P Q d (gJ h 12) (gI h 13)).2 := by
  intro d
  induction d with
  | zero =>
    intro h hd w hI
    refine ⟨h, ?_, sx_refl _ _, rfl, rfl⟩
    rw [show nI 0 - 1 = -1 from by decide]
    simp only [b155_53, b155_94, e10, e01, em10, eq_self, lt0_nI, ge0_nI, cl_nI, le_nI, lt_nI, eq_nI, ne_m1, le40, lt40, gd_nI, nI_1, yle, nle, ylt, nlt, reduceIte, if_true, if_false, and_true, true_and, and_false, false_and, or_true, true_or, or_false, false_or, not_true_eq_false, not_false_eq_true, rI_some, rL_some, rV_some, rA_ref, rA_null, b01, b01', i01, lcmp0, lcmp_lt, lcmp_gt, om1, m1_lt0]
  | succ d ih =>
    intro h hd w hI
    have h40 := w.2.2.2.2.2.2.2.1
    have hdn : d < n := by omega
    have hwf := w.2.2.2.2.2.2.2.2 d hdn
    have hz := iw_zero hI
    have back : nI d + -1 = nI d - 1 := by
      rw [Int32.sub_eq_add_neg]
    rw [nI_pred]
    unfold dn
    by_cases hS : gI h 13 d = -1
    · rw [if_pos hS]
      obtain ⟨h', e, er⟩ := ih h (by omega) w (iw_down (by omega) hI)
      refine ⟨h', ?_, er⟩
      rw [← e, b155_53]
      simp (disch := omega) only [b155_57, b155_63, b155_88, e10, e01, em10, eq_self, lt0_nI, ge0_nI, cl_nI, le_nI, lt_nI, eq_nI, ne_m1, le40, lt40, gd_nI, nI_1, yle, nle, ylt, nlt, reduceIte, if_true, if_false, and_true, true_and, and_false, false_and, or_true, true_or, or_false, false_or, not_true_eq_false, not_false_eq_true, rI_some, rL_some, rV_some, rA_ref, rA_null, b01, b01', i01, lcmp0, lcmp_lt, lcmp_gt, om1, m1_lt0, hz, hS, back]
    · rw [if_neg hS]
      obtain ⟨h1, a1, a2, a3, a4⟩ := r_wpass (h := h) (show d < 40 by omega) hwf.1
      have w1 := hc_sx w a2 (by decide)
      obtain ⟨h2, b1, b2, b3, b4⟩ := r_wpass (h := h1) (show d < 40 by omega) hwf.2.1
      have w2 := hc_sx w1 b2 (by decide)
      rw [a3] at b3; rw [a4] at b4
      obtain ⟨h', e, e1, e2, e3⟩ := ih h2 (by omega) w2 (by rw [b3, b4]; exact iw_step w.2.2.2.2.2.2.2 hdn hb hI hS)
      rw [b3, b4] at e2 e3
      refine ⟨h', ?_, sx_trans a2 (sx_trans b2 e1), e2, e3⟩
      rw [← e, b155_53]
      have fp : Rt 133 [.ref 1, .int (nI d)] h = some (some (.int (P d)), h) := by rw [r_firstParent w.1 h40 hdn, w.2.2.2.1]
      have sp : Rt 134 [.ref 1, .int (nI d)] h1 = some (some (.int (Q d)), h1) := by rw [r_secondParent w1.1 h40 hdn, w1.2.2.2.2.1]
      simp (disch := omega) only [b155_57, b155_63, b155_68, b155_75, b155_78, b155_85, b155_88, e10, e01, em10, eq_self, lt0_nI, ge0_nI, cl_nI, le_nI, lt_nI, eq_nI, ne_m1, le40, lt40, gd_nI, nI_1, yle, nle, ylt, nlt, reduceIte, if_true, if_false, and_true, true_and, and_false, false_and, or_true, true_or, or_false, false_or, not_true_eq_false, not_false_eq_true, rI_some, rL_some, rV_some, rA_ref, rA_null, b01, b01', i01, lcmp0, lcmp_lt, lcmp_gt, om1, m1_lt0, hz, hS, fp, sp, a1, b1, back]
end PA
