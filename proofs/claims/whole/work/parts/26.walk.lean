/-! A WALK. -/
def wk (ev : Nat) (pr E : Nat → Int64) : Nat → Int64 → Int64 → Nat → Nat → Int64 × Nat × Nat
  | 0, _, found, seen, used => (found, seen, used)
  | d + 1, pile, found, seen, used => if bt pile d = true ∧ bt found d = false then (if kp ev d = true then wk ev pr E d pile (found ||| E d) seen (used + 1) else wk ev pr E d (pile ||| pr d) (found ||| ob d) (seen + 1) used) else wk ev pr E d pile found seen used
theorem gr_eq {s : Int64} {e : Nat} : ∀ m, e < m → bt s e = true → (∀ j, e < j → j < m → bt s j = false) → gr s m = nI e
  | 0, h, _, _ => by omega
  | m + 1, h, hb, hj => by
    unfold gr
    by_cases hme : m = e
    · subst hme; rw [if_pos hb]
    · rw [if_neg (by rw [hj m (by omega) (by omega)]; decide)]
      exact gr_eq m (by omega) hb (fun j h1 h2 => hj j h1 (by omega))
section WK
variable {n sl ev : Nat} {P Q K : Nat → Int32} {E : Nat → Int64}
theorem desc_loop (h1 : 1 ≤ ev) (h2 : ev ≤ 10) (x2 : Int32) : ∀ (d k st : Nat) (cp mp found : Int64) (seen used : Nat) (h : mH) (o4 o6 : Option Value), st + k = 40 → d ≤ k → d ≤ n → (∀ j, j < 64 → (bt cp j = true ↔ j < d ∧ bt mp j = true)) → HC h n sl P Q K E → gI h 14 0 = nI ev → gI h 14 1 = nI seen → gI h 14 2 = nI used → gJ h 14 3 = found →
    ∃ h', Ev 150 23 [some (.ref 14), some (.ref 1), some (.int x2), some (.long cp), o4, some (.int (nI st)), o6] [] h = some (none, h') ∧ Sx [4] h h' ∧ gI h' 14 1 = nI (wk ev (par P Q) E d mp found seen used).2.1 ∧ gI h' 14 2 = nI (wk ev (par P Q) E d mp found seen used).2.2 ∧ gJ h' 14 3 = (wk ev (par P Q) E d mp found seen used).1 := by
  intro d
  induction d with
  | zero =>
    intro k st cp mp found seen used h o4 o6 hk hdk hdn hcp w he f1 f2 f3
    have hz : cp = 0 := by
      apply bt_ext; intro j hj
      rw [bt_zero]
      cases hb : bt cp j with
      | false => rfl
      | true => have := (hcp j hj).mp hb; omega
    subst hz
    refine ⟨h, ?_, sx_refl _ _, f1, f2, f3⟩
    rw [b150_23]
    by_cases hst : st = 40
    · simp (disch := omega) only [b150_145, e10, e01, em10, eq_self, lt0_nI, ge0_nI, cl_nI, le_nI, lt_nI, eq_nI, ne_m1, le40, lt40, gd_nI, nI_1, yle, nle, ylt, nlt, reduceIte, if_true, if_false, and_true, true_and, and_false, false_and, or_true, true_or, or_false, false_or, not_true_eq_false, not_false_eq_true, rI_some, rL_some, rV_some, rA_ref, rA_null, b01, b01', i01, lcmp0, lcmp_lt, lcmp_gt, om1, m1_lt0]
    · simp (disch := omega) only [b150_30, b150_145, e10, e01, em10, eq_self, lt0_nI, ge0_nI, cl_nI, le_nI, lt_nI, eq_nI, ne_m1, le40, lt40, gd_nI, nI_1, yle, nle, ylt, nlt, reduceIte, if_true, if_false, and_true, true_and, and_false, false_and, or_true, true_or, or_false, false_or, not_true_eq_false, not_false_eq_true, rI_some, rL_some, rV_some, rA_ref, rA_null, b01, b01', i01, lcmp0, lcmp_lt, lcmp_gt, om1, m1_lt0]
  | succ d ih =>
    intro k st cp mp found seen used h o4 o6 hk hdk hdn hcp w he f1 f2 f3
    have h40 := w.2.2.2.2.2.2.2.1
    have r1 : ∀ j, 1 ≤ j → rg 14 j ∈ [4] := fun j hj => by
      have : rg 14 j = 4 := by simp [rg, hj]
      rw [this]; exact List.mem_singleton.mpr rfl
    cases hm : bt mp d with
    | false =>
      have ew : wk ev (par P Q) E (d + 1) mp found seen used = wk ev (par P Q) E d mp found seen used := by rw [wk, if_neg (by rw [hm]; exact fun q => by cases q.1)]
      rw [ew]
      refine ih k st cp mp found seen used h o4 o6 hk (by omega) (by omega) (fun j hj => ?_) w he f1 f2 f3
      rw [hcp j hj]
      constructor
      · rintro ⟨a, b⟩
        refine ⟨?_, b⟩
        by_cases hjd : j = d
        · subst hjd; rw [hm] at b; cases b
        · omega
      · rintro ⟨a, b⟩; exact ⟨by omega, b⟩
    | true =>
      have hbd : bt cp d = true := (hcp d (by omega)).mpr ⟨by omega, hm⟩
      have hgr : gr cp 40 = nI d := gr_eq 40 (by omega) hbd (fun j a b => by
        cases hb : bt cp j with
        | false => rfl
        | true => have := (hcp j (by omega)).mp hb; omega)
      have hp0 : ¬ cp = 0 := by intro q; rw [q, bt_zero] at hbd; cases hbd
      have hcp' : ∀ j, j < 64 → (bt (cp &&& (ob d ^^^ (-1))) j = true ↔ j < d ∧ bt mp j = true) := fun j hj => by
        rw [bt_and, bt_not _ hj, bt_ob (by omega), Bool.and_eq_true, hcp j hj]
        by_cases hjd : j = d
        · subst hjd; simp
        · simp [hjd]; omega
      have hdd : d < 40 := by omega
      have hdn' : d < n := by omega
      cases hf : bt found d with
      | true =>
        have ew : wk ev (par P Q) E (d + 1) mp found seen used = wk ev (par P Q) E d mp found seen used := by rw [wk, if_neg (by rw [hf]; exact fun q => by cases q.2)]
        rw [ew]
        obtain ⟨h', e, er⟩ := ih (k - 1) (st + 1) (cp &&& (ob d ^^^ (-1))) mp found seen used h (kil none) (some (.int (nI d))) (by omega) (by omega) (by omega) hcp' w he f1 f2 f3
        refine ⟨h', ?_, er⟩
        rw [← e, b150_23]
        simp (disch := omega) only [b150_30, b150_36, b150_40, b150_48, b150_63, b150_66, b150_139, e10, e01, em10, eq_self, lt0_nI, ge0_nI, cl_nI, le_nI, lt_nI, eq_nI, ne_m1, le40, lt40, gd_nI, nI_1, yle, nle, ylt, nlt, reduceIte, if_true, if_false, and_true, true_and, and_false, false_and, or_true, true_or, or_false, false_or, not_true_eq_false, not_false_eq_true, rI_some, rL_some, rV_some, rA_ref, rA_null, b01, b01', i01, lcmp0, lcmp_lt, lcmp_gt, om1, m1_lt0, hp0, r_greatestIn, hgr, r_bit hdd, r_isIn hdd, f3, hf]
      | false =>
        cases hk2 : kp ev d with
        | true =>
          have ew : wk ev (par P Q) E (d + 1) mp found seen used = wk ev (par P Q) E d mp (found ||| E d) seen (used + 1) := by rw [wk, if_pos ⟨hm, hf⟩, if_pos hk2]
          rw [ew]
          obtain ⟨h2', eh2⟩ : ∃ h2', h2' = sI (sJ h 14 3 (found ||| E d)) 14 2 (nI (used + 1)) := ⟨_, rfl⟩
          have s2 : Sx [4] h h2' := by rw [eh2]; exact sx_sI (sx_sJ (sx_refl _ _) (r1 3 (by omega))) (r1 2 (by omega))
          obtain ⟨h', e, e1, e2⟩ := ih (k - 1) (st + 1) (cp &&& (ob d ^^^ (-1))) mp (found ||| E d) seen (used + 1) h2' (kil none) (some (.int (nI d))) (by omega) (by omega) (by omega) hcp' (hc_sx w s2 (by decide)) (by rw [eh2]; simp only [gI_sI, gJ_sJ, gI_sJ, gJ_sI, Nat.reduceEqDiff, eq_self, and_true, true_and, and_false, false_and, and_self, if_true, if_false, reduceIte, Nat.succ_ne_zero, he]) (by rw [eh2]; simp only [gI_sI, gJ_sJ, gI_sJ, gJ_sI, Nat.reduceEqDiff, eq_self, and_true, true_and, and_false, false_and, and_self, if_true, if_false, reduceIte, Nat.succ_ne_zero, f1]) (by rw [eh2]; simp only [gI_sI, gJ_sJ, gI_sJ, gJ_sI, Nat.reduceEqDiff, eq_self, and_true, true_and, and_false, false_and, and_self, if_true, if_false, reduceIte, Nat.succ_ne_zero]) (by rw [eh2]; simp only [gI_sI, gJ_sJ, gI_sJ, gJ_sI, Nat.reduceEqDiff, eq_self, and_true, true_and, and_false, false_and, and_self, if_true, if_false, reduceIte, Nat.succ_ne_zero])
          refine ⟨h', ?_, sx_trans s2 e1, e2⟩
          rw [← e, b150_23]
          have q2 : gI (sJ h 14 3 (found ||| E d)) 14 2 = nI used := by simp only [gI_sI, gJ_sJ, gI_sJ, gJ_sI, Nat.reduceEqDiff, eq_self, and_true, true_and, and_false, false_and, and_self, if_true, if_false, reduceIte, Nat.succ_ne_zero, f2]
          simp (disch := omega) only [b150_30, b150_36, b150_40, b150_48, b150_63, b150_66, b150_69, b150_75, b150_78, b150_89, b150_139, e10, e01, em10, eq_self, lt0_nI, ge0_nI, cl_nI, le_nI, lt_nI, eq_nI, ne_m1, le40, lt40, gd_nI, nI_1, yle, nle, ylt, nlt, reduceIte, if_true, if_false, and_true, true_and, and_false, false_and, or_true, true_or, or_false, false_or, not_true_eq_false, not_false_eq_true, rI_some, rL_some, rV_some, rA_ref, rA_null, b01, b01', i01, lcmp0, lcmp_lt, lcmp_gt, om1, m1_lt0, hp0, r_greatestIn, hgr, r_bit hdd, r_isIn hdd, f3, hf, r_isKept he h1 h2 hdd, hk2, i01_eq, c_reach w hdn', q2, eh2, Bool.false_eq_true, Bool.true_eq_false]
        | false =>
          have ew : wk ev (par P Q) E (d + 1) mp found seen used = wk ev (par P Q) E d (mp ||| par P Q d) (found ||| ob d) (seen + 1) used := by rw [wk, if_pos ⟨hm, hf⟩, if_neg (by rw [hk2]; decide)]
          rw [ew]
          obtain ⟨h2', eh2⟩ : ∃ h2', h2' = sI (sJ h 14 3 (found ||| ob d)) 14 1 (nI (seen + 1)) := ⟨_, rfl⟩
          have s2 : Sx [4] h h2' := by rw [eh2]; exact sx_sI (sx_sJ (sx_refl _ _) (r1 3 (by omega))) (r1 1 (by omega))
          have w2 := hc_sx w s2 (by decide)
          obtain ⟨h', e, e1, e2⟩ := ih (k - 1) (st + 1) ((cp &&& (ob d ^^^ (-1))) ||| par P Q d) (mp ||| par P Q d) (found ||| ob d) (seen + 1) used h2' (kil none) (some (.int (nI d))) (by omega) (by omega) (by omega) (fun j hj => by
            rw [bt_or, bt_or, Bool.or_eq_true, Bool.or_eq_true, hcp' j hj, bt_par w.2.2.2.2.2.2.2 hdn']
            constructor
            · rintro (q | q)
              · exact ⟨q.1, Or.inl q.2⟩
              · exact ⟨q.1, Or.inr q⟩
            · rintro ⟨a, q | q⟩
              · exact Or.inl ⟨a, q⟩
              · exact Or.inr q) w2 (by rw [eh2]; simp only [gI_sI, gJ_sJ, gI_sJ, gJ_sI, Nat.reduceEqDiff, eq_self, and_true, true_and, and_false, false_and, and_self, if_true, if_false, reduceIte, Nat.succ_ne_zero, he]) (by rw [eh2]; simp only [gI_sI, gJ_sJ, gI_sJ, gJ_sI, Nat.reduceEqDiff, eq_self, and_true, true_and, and_false, false_and, and_self, if_true, if_false, reduceIte, Nat.succ_ne_zero]) (by rw [eh2]; simp only [gI_sI, gJ_sJ, gI_sJ, gJ_sI, Nat.reduceEqDiff, eq_self, and_true, true_and, and_false, false_and, and_self, if_true, if_false, reduceIte, Nat.succ_ne_zero, f2]) (by rw [eh2]; simp only [gI_sI, gJ_sJ, gI_sJ, gJ_sI, Nat.reduceEqDiff, eq_self, and_true, true_and, and_false, false_and, and_self, if_true, if_false, reduceIte, Nat.succ_ne_zero])
          refine ⟨h', ?_, sx_trans s2 e1, e2⟩
          rw [← e, b150_23]
          have q2 : gI (sJ h 14 3 (found ||| ob d)) 14 1 = nI seen := by simp only [gI_sI, gJ_sJ, gI_sJ, gJ_sI, Nat.reduceEqDiff, eq_self, and_true, true_and, and_false, false_and, and_self, if_true, if_false, reduceIte, Nat.succ_ne_zero, f1]
          simp (disch := omega) only [b150_30, b150_36, b150_40, b150_48, b150_63, b150_66, b150_69, b150_75, b150_106, b150_116, e10, e01, em10, eq_self, lt0_nI, ge0_nI, cl_nI, le_nI, lt_nI, eq_nI, ne_m1, le40, lt40, gd_nI, nI_1, yle, nle, ylt, nlt, reduceIte, if_true, if_false, and_true, true_and, and_false, false_and, or_true, true_or, or_false, false_or, not_true_eq_false, not_false_eq_true, rI_some, rL_some, rV_some, rA_ref, rA_null, b01, b01', i01, lcmp0, lcmp_lt, lcmp_gt, om1, m1_lt0, hp0, r_greatestIn, hgr, r_bit hdd, r_isIn hdd, f3, hf, r_isKept he h1 h2 hdd, hk2, i01_eq, q2, Bool.false_eq_true, Bool.true_eq_false]
          rw [← eh2]
          simp (disch := omega) only [b150_137, b150_139, c_par w2 hdn', e10, e01, em10, eq_self, lt0_nI, ge0_nI, cl_nI, le_nI, lt_nI, eq_nI, ne_m1, le40, lt40, gd_nI, nI_1, yle, nle, ylt, nlt, reduceIte, if_true, if_false, and_true, true_and, and_false, false_and, or_true, true_or, or_false, false_or, not_true_eq_false, not_false_eq_true, rI_some, rL_some, rV_some, rA_ref, rA_null, b01, b01', i01, lcmp0, lcmp_lt, lcmp_gt, om1, m1_lt0]
def wkA (ev : Nat) (P Q : Nat → Int32) (E : Nat → Int64) (c : Nat) : Int64 × Nat × Nat := wk ev (par P Q) E (c + 1) (ob c) 0 0 0
theorem r_descend {h : mH} (w : HC h n sl P Q K E) (he : gI h 14 0 = nI ev) (h1 : 1 ≤ ev) (h2 : ev ≤ 10) {c : Nat} (hc : c < n) : ∃ h', Rt 150 [.ref 14, .ref 1, .int (nI c)] h = some (none, h') ∧ Sx [4] h h' ∧ gI h' 14 1 = nI (wkA ev P Q E c).2.1 ∧ gI h' 14 2 = nI (wkA ev P Q E c).2.2 ∧ gJ h' 14 3 = (wkA ev P Q E c).1 := by
  have h40 := w.2.2.2.2.2.2.2.1
  have r1 : ∀ j, 1 ≤ j → rg 14 j ∈ [4] := fun j hj => by
    have : rg 14 j = 4 := by simp [rg, hj]
    rw [this]; exact List.mem_singleton.mpr rfl
  have s2 : Sx [4] h (sJ (sI (sI h 14 1 0) 14 2 0) 14 3 0) := sx_sJ (sx_sI (sx_sI (sx_refl _ _) (r1 1 (by omega))) (r1 2 (by omega))) (r1 3 (by omega))
  have w2 := hc_sx w s2 (by decide)
  obtain ⟨h', e, e1, e2⟩ := desc_loop h1 h2 (nI c) (c + 1) 40 0 (ob c) (ob c) 0 0 0 _ none none (by omega) (by omega) (by omega) (fun j hj => by
    rw [bt_ob (by omega), decide_eq_true_eq]; omega) w2 (by simp only [gI_sI, gJ_sJ, gI_sJ, gJ_sI, Nat.reduceEqDiff, eq_self, and_true, true_and, and_false, false_and, and_self, if_true, if_false, reduceIte, Nat.succ_ne_zero, he]) (by simp only [gI_sI, gJ_sJ, gI_sJ, gJ_sI, Nat.reduceEqDiff, eq_self, and_true, true_and, and_false, false_and, and_self, if_true, if_false, reduceIte, Nat.succ_ne_zero]; rfl) (by simp only [gI_sI, gJ_sJ, gI_sJ, gJ_sI, Nat.reduceEqDiff, eq_self, and_true, true_and, and_false, false_and, and_self, if_true, if_false, reduceIte, Nat.succ_ne_zero]; rfl) (by simp only [gI_sI, gJ_sJ, gI_sJ, gJ_sI, Nat.reduceEqDiff, eq_self, and_true, true_and, and_false, false_and, and_self, if_true, if_false, reduceIte, Nat.succ_ne_zero])
  refine ⟨h', ?_, sx_trans s2 e1, e2⟩
  show Ev 150 0 [some (.ref 14), some (.ref 1), some (.int (nI c)), none, none, none, none] [] h = _
  refine Eq.trans ?_ e
  simp only [b150_0, b150_19, c_bit w2 hc, rL_some]
  rfl
/-- the model -/
theorem mwalk_side {h : mH} {c : Nat} (hc : c < 40) {v sd : Int32} (hv : okp v c) (hpar : Rt 73 [.ref 27, .int (nI c), .int sd] h = some (some (.int v), h)) (x1 x2 : Int32) (pile found : Int64) (s u : Int32) (o4 o6 q10 o11 o13 : _) :
    ∃ q4 q11 q13, Ev 95 91 [some (.ref 27), some (.int x1), some (.int x2), some (.long pile), o4, some (.long found), o6, some (.int s), some (.int u), some (.int (nI c)), some (.long q10), o11, some (.int sd), o13] [] h = Ev 95 85 [some (.ref 27), some (.int x1), some (.int x2), some (.long (pile ||| pb v)), q4, some (.long found), o6, some (.int s), some (.int u), some (.int (nI c)), some (.long q10), q11, some (.int (sd + 1)), q13] [] h := by
  rcases hv with rfl | ⟨p, hp, rfl⟩
  · refine ⟨none, kil o11, some (.int (-1)), ?_⟩
    rw [pb_m1]
    simp (disch := omega) only [b95_91, b95_99, b95_108, b95_112, b95_116, e10, e01, em10, eq_self, lt0_nI, ge0_nI, cl_nI, le_nI, lt_nI, eq_nI, ne_m1, le40, lt40, gd_nI, nI_1, yle, nle, ylt, nlt, reduceIte, if_true, if_false, and_true, true_and, and_false, false_and, or_true, true_or, or_false, false_or, not_true_eq_false, not_false_eq_true, rI_some, rL_some, rV_some, rA_ref, rA_null, b01, b01', i01, lcmp0, lcmp_lt, lcmp_gt, om1, m1_lt0, hpar]
  · refine ⟨none, kil o11, some (.int (nI p)), ?_⟩
    rw [pb_nI (by omega)]
    simp (disch := omega) only [b95_91, b95_99, b95_108, b95_112, b95_116, e10, e01, em10, eq_self, lt0_nI, ge0_nI, cl_nI, le_nI, lt_nI, eq_nI, ne_m1, le40, lt40, gd_nI, nI_1, yle, nle, ylt, nlt, reduceIte, if_true, if_false, and_true, true_and, and_false, false_and, or_true, true_or, or_false, false_or, not_true_eq_false, not_false_eq_true, rI_some, rL_some, rV_some, rA_ref, rA_null, b01, b01', i01, lcmp0, lcmp_lt, lcmp_gt, om1, m1_lt0, hpar, sh_ob']
theorem mwalk_loop {h : mH} (w : HM h n sl P Q K E) (he : gI h 27 13 = nI ev) (h1 : 1 ≤ ev) (h2 : ev ≤ 10) (x1 x2 : Int32) : ∀ (d : Nat) (pile found : Int64) (seen used : Nat) (o4 o6 o10 o11 o12 o13 : Option Value), d < n → ∃ p' q4 q6 q10 q11 q12 q13, Ev 95 16 [some (.ref 27), some (.int x1), some (.int x2), some (.long pile), o4, some (.long found), o6, some (.int (nI seen)), some (.int (nI used)), some (.int (nI d)), o10, o11, o12, o13] [] h = Ev 95 130 [some (.ref 27), some (.int x1), some (.int x2), some (.long p'), q4, some (.long (wk ev (par P Q) E (d + 1) pile found seen used).1), q6, some (.int (nI (wk ev (par P Q) E (d + 1) pile found seen used).2.1)), some (.int (nI (wk ev (par P Q) E (d + 1) pile found seen used).2.2)), some (.int (-1)), q10, q11, q12, q13] [] h := by
  intro d
  have h40 := w.2.2.2.2.2.2.1
  -- one turn
  have turn : ∀ (d : Nat) (pile found : Int64) (seen used : Nat) (o4 o6 o10 o11 o12 o13 : Option Value), d < n → ∃ pile' found' seen' used' q4 q6 q10 q11 q12 q13, (∀ e, wk ev (par P Q) E e pile' found' seen' used' = wk ev (par P Q) E e pile' found' seen' used') ∧ wk ev (par P Q) E (d + 1) pile found seen used = wk ev (par P Q) E d pile' found' seen' used' ∧ Ev 95 21 [some (.ref 27), some (.int x1), some (.int x2), some (.long pile), o4, some (.long found), o6, some (.int (nI seen)), some (.int (nI used)), some (.int (nI d)), o10, o11, o12, o13] [] h = Ev 95 16 [some (.ref 27), some (.int x1), some (.int x2), some (.long pile'), q4, some (.long found'), q6, some (.int (nI seen')), some (.int (nI used')), some (.int (nI d + -1)), q10, q11, q12, q13] [] h := by
    intro d pile found seen used o4 o6 o10 o11 o12 o13 hd
    have hdd : d < 40 := by omega
    cases hm : bt pile d with
    | false =>
      refine ⟨pile, found, seen, used, o4, o6, some (.long (ob d)), none, o12, o13, fun _ => rfl, ?_, ?_⟩
      · rw [wk, if_neg (by rw [hm]; exact fun q => by cases q.1)]
      · simp (disch := omega) only [b95_21, b95_124, e10, e01, em10, eq_self, lt0_nI, ge0_nI, cl_nI, le_nI, lt_nI, eq_nI, ne_m1, le40, lt40, gd_nI, nI_1, yle, nle, ylt, nlt, reduceIte, if_true, if_false, and_true, true_and, and_false, false_and, or_true, true_or, or_false, false_or, not_true_eq_false, not_false_eq_true, rI_some, rL_some, rV_some, rA_ref, rA_null, b01, b01', i01, lcmp0, lcmp_lt, lcmp_gt, om1, m1_lt0, sh_ob', bit_and, hm]
    | true =>
      cases hf : bt found d with
      | true =>
        refine ⟨pile, found, seen, used, o4, o6, some (.long (ob d)), none, o12, o13, fun _ => rfl, ?_, ?_⟩
        · rw [wk, if_neg (by rw [hf]; exact fun q => by cases q.2)]
        · simp (disch := omega) only [b95_21, b95_36, b95_124, e10, e01, em10, eq_self, lt0_nI, ge0_nI, cl_nI, le_nI, lt_nI, eq_nI, ne_m1, le40, lt40, gd_nI, nI_1, yle, nle, ylt, nlt, reduceIte, if_true, if_false, and_true, true_and, and_false, false_and, or_true, true_or, or_false, false_or, not_true_eq_false, not_false_eq_true, rI_some, rL_some, rV_some, rA_ref, rA_null, b01, b01', i01, lcmp0, lcmp_lt, lcmp_gt, om1, m1_lt0, sh_ob', bit_and, hm, hf, Bool.true_eq_false]
      | false =>
        cases hk2 : kp ev d with
        | true =>
          refine ⟨pile, found ||| E d, seen, used + 1, kil o4, none, some (.long (ob d)), none, o12, o13, fun _ => rfl, ?_, ?_⟩
          · rw [wk, if_pos ⟨hm, hf⟩, if_pos hk2]
          · simp (disch := omega) only [b95_21, b95_36, b95_46, b95_52, b95_55, b95_63, b95_124, e10, e01, em10, eq_self, lt0_nI, ge0_nI, cl_nI, le_nI, lt_nI, eq_nI, ne_m1, le40, lt40, gd_nI, nI_1, yle, nle, ylt, nlt, reduceIte, if_true, if_false, and_true, true_and, and_false, false_and, or_true, true_or, or_false, false_or, not_true_eq_false, not_false_eq_true, rI_some, rL_some, rV_some, rA_ref, rA_null, b01, b01', i01, lcmp0, lcmp_lt, lcmp_gt, om1, m1_lt0, sh_ob', bit_and, hm, hf, r_misKept he h1 h2 hdd, hk2, i01_eq, m_reach w hd, Bool.true_eq_false]
        | false =>
          have hwf := w.2.2.2.2.2.2.2 d hd
          obtain ⟨a4, t11, a13, ea⟩ := mwalk_side hdd (sd := 0) hwf.1 (m_parent0 w hd) x1 x2 pile (found ||| ob d) (nI (seen + 1)) (nI used) (kil o4) none (ob d) (kil none) o13
          obtain ⟨b4, b11, b13, eb⟩ := mwalk_side hdd (sd := 1) hwf.2.1 (m_parent1 w hd) x1 x2 (pile ||| pb (P d)) (found ||| ob d) (nI (seen + 1)) (nI used) a4 none (ob d) t11 a13
          refine ⟨pile ||| par P Q d, found ||| ob d, seen + 1, used, b4, none, some (.long (ob d)), b11, some (.int 2), b13, fun _ => rfl, ?_, ?_⟩
          · rw [wk, if_pos ⟨hm, hf⟩, if_neg (by rw [hk2]; decide)]
          · simp (disch := omega) only [b95_21, b95_36, b95_46, b95_52, b95_72, e10, e01, em10, eq_self, lt0_nI, ge0_nI, cl_nI, le_nI, lt_nI, eq_nI, ne_m1, le40, lt40, gd_nI, nI_1, yle, nle, ylt, nlt, reduceIte, if_true, if_false, and_true, true_and, and_false, false_and, or_true, true_or, or_false, false_or, not_true_eq_false, not_false_eq_true, rI_some, rL_some, rV_some, rA_ref, rA_null, b01, b01', i01, lcmp0, lcmp_lt, lcmp_gt, om1, m1_lt0, sh_ob', bit_and, hm, hf, r_misKept he h1 h2 hdd, hk2, i01_eq, Bool.true_eq_false]
            rw [b95_85, if_neg (show ¬ (2 : Int32) ≤ 0 by decide), ea, a01, b95_85, if_neg (show ¬ (2 : Int32) ≤ 1 by decide), eb, a11, b95_85, if_pos (show (2 : Int32) ≤ 2 by decide), b95_124, om1, Int64.or_assoc]
            rfl
  induction d with
  | zero =>
    intro pile found seen used o4 o6 o10 o11 o12 o13 hd
    obtain ⟨pile', found', seen', used', q4, q6, q10, q11, q12, q13, -, e1, e2⟩ := turn 0 pile found seen used o4 o6 o10 o11 o12 o13 hd
    refine ⟨pile', q4, q6, q10, q11, q12, q13, ?_⟩
    rw [b95_16, if_neg (nI_pos (by omega)), e2, e1, show nI 0 + -1 = -1 from by decide, b95_16, if_pos (show (-1 : Int32) < 0 by decide)]
    rfl
  | succ d ih =>
    intro pile found seen used o4 o6 o10 o11 o12 o13 hd
    obtain ⟨pile', found', seen', used', q4, q6, q10, q11, q12, q13, -, e1, e2⟩ := turn (d + 1) pile found seen used o4 o6 o10 o11 o12 o13 hd
    obtain ⟨p2, r4, r6, r10, r11, r12, r13, e3⟩ := ih pile' found' seen' used' q4 q6 q10 q11 q12 q13 (by omega)
    refine ⟨p2, r4, r6, r10, r11, r12, r13, ?_⟩
    rw [b95_16, if_neg (nI_pos (by omega)), e2, e1, nI_m1]
    exact e3
def wkR (ev : Nat) (P Q : Nat → Int32) (E : Nat → Int64) (c : Nat) (what : Int32) : Int32 := if what = 0 then nI (wkA ev P Q E c).2.1 else if what = 1 then nI (wkA ev P Q E c).2.2 else nI (ct (wkA ev P Q E c).1 40)
theorem r_walkBy {h : mH} (w : HM h n sl P Q K E) (he : gI h 27 13 = nI ev) (h1 : 1 ≤ ev) (h2 : ev ≤ 10) {c : Nat} (hc : c < n) (what : Int32) : Rt 95 [.ref 27, .int (nI c), .int what] h = some (some (.int (wkR ev P Q E c what)), h) := by
  have h40 := w.2.2.2.2.2.2.1
  show Ev 95 0 [some (.ref 27), some (.int (nI c)), some (.int what), none, none, none, none, none, none, none, none, none, none, none] [] h = _
  obtain ⟨p', q4, q6, q10, q11, q12, q13, e⟩ := mwalk_loop w he h1 h2 (nI c) what c (ob c) 0 0 0 none none none none none none hc
  rw [b95_0, sh_ob' (by omega)]
  refine Eq.trans e ?_
  simp only [b95_130, b95_134, b95_139, b95_144, b95_149, b95_154, r_manyOf, rI_some, wkR, wkA]
  by_cases q0 : what = 0
  · simp [q0]
  · by_cases q1 : what = 1
    · simp [q1]
    · simp [q0, q1]
end WK
