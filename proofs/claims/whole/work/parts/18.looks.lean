/-! LOOKING in the model. -/
def f1 (g : Nat → Int32) (lst v : Int32) (e : Int64) : Int64 := if ¬ v = -1 ∧ bt e v.toNatClampNeg = false ∧ lst ≤ g v.toNatClampNeg then ob v.toNatClampNeg else 0
theorem f1_m1 (g : Nat → Int32) (lst : Int32) (e : Int64) : f1 g lst (-1) e = 0 := by simp [f1]
theorem f1_nI (g : Nat → Int32) (lst : Int32) {p : Nat} (hp : p < 2147483648) (e : Int64) : f1 g lst (nI p) e = if bt e p = false ∧ lst ≤ g p then ob p else 0 := by
  unfold f1
  rw [cl_nI hp]
  simp [ne_m1 hp]
theorem bt_f1 {g : Nat → Int32} {lst v : Int32} {c : Nat} (hv : okp v c) (hc : c ≤ 40) (e : Int64) (j : Nat) : bt (f1 g lst v e) j = true ↔ (v = nI j ∧ j < c) ∧ bt e j = false ∧ lst ≤ g j := by
  rcases hv with rfl | ⟨p, hp, rfl⟩
  · rw [f1_m1, bt_zero]
    refine ⟨fun h => (by cases h), fun h => ?_⟩
    have : nI j = -1 := h.1.1.symm
    rw [ne_m1 (by omega)] at this
    exact this.elim
  · rw [f1_nI g lst (by omega)]
    by_cases hm : bt e p = false ∧ lst ≤ g p
    · rw [if_pos hm, bt_ob (by omega), decide_eq_true_eq]
      refine ⟨fun h => (by subst h; exact ⟨⟨rfl, hp⟩, hm⟩), fun h => ?_⟩
      have := h.1.1
      rw [eq_nI (by omega) (by omega)] at this
      exact this.symm
    · rw [if_neg hm, bt_zero]
      refine ⟨fun h => (by cases h), fun h => ?_⟩
      have := h.1.1
      rw [eq_nI (by omega) (by omega)] at this
      subst this
      exact absurd h.2 hm
theorem bool_eq {a b : Bool} (h : a = true ↔ b = true) : a = b := by
  cases a <;> cases b <;> simp_all
/-- the parents that are put on the pile: one after the other, or both at once -/
theorem f1_ps {n : Nat} {P Q K : Nat → Int32} {E : Nat → Int64} (w : WF n P Q K E) {c : Nat} (hc : c < n) {g : Nat → Int32} {lst : Int32} {al : Int64} (hal : ∀ j, j < n → (bt al j = true ↔ lst ≤ g j)) (e : Int64) :
    f1 g lst (P c) e ||| f1 g lst (Q c) (e ||| f1 g lst (P c) e) = (par P Q c &&& al) &&& (e ^^^ (-1)) := by
  obtain ⟨h1, h2, h3, -⟩ := w.2 c hc
  have h40 := w.1
  apply bt_ext
  intro j hj
  apply bool_eq
  rw [bt_or, Bool.or_eq_true, bt_f1 h1 (by omega), bt_f1 h2 (by omega), bt_and, bt_and, Bool.and_eq_true, Bool.and_eq_true, bt_not _ hj, bt_par w hc, bt_or]
  have ef : bt (f1 g lst (P c) e) j = false ∨ (P c = nI j ∧ j < c) := by
    cases hb : bt (f1 g lst (P c) e) j with
    | false => exact Or.inl rfl
    | true => exact Or.inr ((bt_f1 h1 (by omega) e j).mp hb).1
  constructor
  · rintro (⟨⟨a1, a2⟩, a3, a4⟩ | ⟨⟨a1, a2⟩, a3, a4⟩)
    · exact ⟨⟨⟨a2, Or.inl a1⟩, (hal j (by omega)).mpr a4⟩, by rw [a3]; rfl⟩
    · rw [Bool.or_eq_false_iff] at a3
      exact ⟨⟨⟨a2, Or.inr a1⟩, (hal j (by omega)).mpr a4⟩, by rw [a3.1]; rfl⟩
  · rintro ⟨⟨⟨a2, a1⟩, a4⟩, a3⟩
    have a3 : bt e j = false := by simpa using a3
    have a4 := (hal j (by omega)).mp a4
    by_cases hp : P c = nI j
    · exact Or.inl ⟨⟨hp, a2⟩, a3, a4⟩
    · have hq : Q c = nI j := a1.resolve_left hp
      rcases ef with q | q
      · exact Or.inr ⟨⟨hq, a2⟩, by rw [a3, q]; rfl, a4⟩
      · exact absurd q.1 hp
section LKM
variable {n sl : Nat} {P Q K : Nat → Int32} {E : Nat → Int64}
theorem looks_side {h : mH} (w : HM h n sl P Q K E) {c : Nat} (hc : c < n) {v sd : Int32} (hv : okp v c) (hpar : Rt 73 [.ref 27, .int (nI c), .int sd] h = some (some (.int v), h)) (a b : Int32) (lst : Int32) (ever pile : Int64) (x8 : Int32) (o5 o7 o12 o13 : Option Value) :
    ∃ o5' o7' o12' o13', Ev 77 95 [some (.ref 27), some (.int a), some (.int b), some (.int lst), some (.long ever), o5, some (.long pile), o7, some (.int x8), some (.int 0), some (.int (nI c)), some (.int sd), o12, o13] [] h = Ev 77 89 [some (.ref 27), some (.int a), some (.int b), some (.int lst), some (.long (ever ||| f1 (gen sl K) lst v ever)), o5', some (.long (pile ||| f1 (gen sl K) lst v ever)), o7', some (.int x8), some (.int 0), some (.int (nI c)), some (.int (sd + 1)), o12', o13'] [] h := by
  have h40 := w.2.2.2.2.2.2.1
  rcases hv with rfl | ⟨p, hp, rfl⟩
  · refine ⟨kil none, none, some (.int (-1)), some (.int 0), ?_⟩
    simp (disch := omega) only [b77_0, b77_5, b77_9, b77_15, b77_16, b77_35, b77_40, b77_46, b77_70, b77_79, b77_83, b77_84, b77_100, b77_108, b77_116, b77_123, b77_126, b77_132, b77_136, b77_140, b77_141, b77_150, b77_157, b77_158, b77_168, b77_175, b77_176, b77_185, b77_188, b77_95, e10, e01, em10, eq_self, lt0_nI, ge0_nI, cl_nI, le_nI, lt_nI, eq_nI, ne_m1, le40, lt40, gd_nI, nI_1, yle, nle, ylt, nlt, reduceIte, if_true, if_false, and_true, true_and, and_false, false_and, or_true, true_or, or_false, false_or, not_true_eq_false, not_false_eq_true, rI_some, rL_some, rV_some, rA_ref, rA_null, b01, b01', i01, lcmp0, lcmp_lt, lcmp_gt, om1, m1_lt0, hpar, f1_m1, Int64.or_zero]
  · by_cases h1 : bt ever p = true
    · refine ⟨kil none, none, some (.int (nI p)), some (.int 0), ?_⟩
      rw [f1_nI _ _ (by omega), if_neg (by rw [h1]; exact fun q => by cases q.1)]
      simp (disch := omega) only [b77_0, b77_5, b77_9, b77_15, b77_16, b77_35, b77_40, b77_46, b77_70, b77_79, b77_83, b77_84, b77_100, b77_108, b77_116, b77_123, b77_126, b77_132, b77_136, b77_140, b77_141, b77_150, b77_157, b77_158, b77_168, b77_175, b77_176, b77_185, b77_188, b77_95, e10, e01, em10, eq_self, lt0_nI, ge0_nI, cl_nI, le_nI, lt_nI, eq_nI, ne_m1, le40, lt40, gd_nI, nI_1, yle, nle, ylt, nlt, reduceIte, if_true, if_false, and_true, true_and, and_false, false_and, or_true, true_or, or_false, false_or, not_true_eq_false, not_false_eq_true, rI_some, rL_some, rV_some, rA_ref, rA_null, b01, b01', i01, lcmp0, lcmp_lt, lcmp_gt, om1, m1_lt0, hpar, r_mholds (show p < 40 by omega), h1, Int64.or_zero]
    · by_cases h2 : gen sl K p < lst
      · refine ⟨kil none, none, some (.int (nI p)), some (.int 0), ?_⟩
        rw [f1_nI _ _ (by omega), if_neg (fun q => absurd h2 (Int32.not_lt.mpr q.2))]
        simp (disch := omega) only [b77_0, b77_5, b77_9, b77_15, b77_16, b77_35, b77_40, b77_46, b77_70, b77_79, b77_83, b77_84, b77_100, b77_108, b77_116, b77_123, b77_126, b77_132, b77_136, b77_140, b77_141, b77_150, b77_157, b77_158, b77_168, b77_175, b77_176, b77_185, b77_188, b77_95, e10, e01, em10, eq_self, lt0_nI, ge0_nI, cl_nI, le_nI, lt_nI, eq_nI, ne_m1, le40, lt40, gd_nI, nI_1, yle, nle, ylt, nlt, reduceIte, if_true, if_false, and_true, true_and, and_false, false_and, or_true, true_or, or_false, false_or, not_true_eq_false, not_false_eq_true, rI_some, rL_some, rV_some, rA_ref, rA_null, b01, b01', i01, lcmp0, lcmp_lt, lcmp_gt, om1, m1_lt0, hpar, r_mholds (show p < 40 by omega), h1, m_gen w (show p < n by omega), h2, Int64.or_zero, Bool.false_eq_true]
      · refine ⟨kil none, none, some (.int (nI p)), some (.int 1), ?_⟩
        rw [f1_nI _ _ (by omega), if_pos ⟨by simpa using h1, Int32.not_lt.mp h2⟩]
        simp (disch := omega) only [b77_0, b77_5, b77_9, b77_15, b77_16, b77_35, b77_40, b77_46, b77_70, b77_79, b77_83, b77_84, b77_100, b77_108, b77_116, b77_123, b77_126, b77_132, b77_136, b77_140, b77_141, b77_150, b77_157, b77_158, b77_168, b77_175, b77_176, b77_185, b77_188, b77_95, e10, e01, em10, eq_self, lt0_nI, ge0_nI, cl_nI, le_nI, lt_nI, eq_nI, ne_m1, le40, lt40, gd_nI, nI_1, yle, nle, ylt, nlt, reduceIte, if_true, if_false, and_true, true_and, and_false, false_and, or_true, true_or, or_false, false_or, not_true_eq_false, not_false_eq_true, rI_some, rL_some, rV_some, rA_ref, rA_null, b01, b01', i01, lcmp0, lcmp_lt, lcmp_gt, om1, m1_lt0, hpar, r_mholds (show p < 40 by omega), h1, m_gen w (show p < n by omega), h2, sh_ob', Bool.false_eq_true]
end LKM
