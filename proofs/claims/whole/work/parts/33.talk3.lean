/-! The talk, whole. -/
def tkHd (s : Tk) : Tk := (s.pl, s.bn, s.cm, s.t, s.hd + 1, s.tc, s.tr)
def rnd (n : Nat) (P Q K : Nat → Int32) (E : Nat → Int64) (g : Int64) (per : Nat) (s : Tk) : Tk := tkHd (an P Q E g ((tl K n 40 per s).t - s.t) s.t (tl K n 40 per s))
def tk (n : Nat) (P Q K : Nat → Int32) (E : Nat → Int64) (W g : Int64) (per : Nat) (hst : Bool) : Nat → Tk → Tk
  | 0, s => s
  | f + 1, s => if s.pl = 0 then s else if (tl K n 40 per s).t = s.t then tl K n 40 per s else if (hst && sv W E (rnd n P Q K E g per s).cm n) = true then rnd n P Q K E g per s else tk n P Q K E W g per hst f (rnd n P Q K E g per s)
section TW
variable {n sl : Nat} {P Q K : Nat → Int32} {E : Nat → Int64}
theorem ct_40 (s : Int64) {n : Nat} (h : n ≤ 40) : ct s n ≤ 40 := Nat.le_trans (ct_le s n) h
theorem rnd_t (g : Int64) (per : Nat) (s : Tk) : (rnd n P Q K E g per s).t = (tl K n 40 per s).t := (an_t P Q E g _ _ _).1
theorem ti_rnd (w : WF n P Q K E) (g : Int64) (per : Nat) {s : Tk} (i : TI n s) (h : ¬ (tl K n 40 per s).t = s.t) : TI n (rnd n P Q K E g per s) ∧ s.t < (rnd n P Q K E g per s).t := by
  obtain ⟨a, b, c, _⟩ := tl_inv K w.1 40 per s i
  obtain ⟨w1, w2, w3, w4, w5⟩ := ti_an w g ((tl K n 40 per s).t - s.t) s.t (tl K n 40 per s) (by omega) a
  have e := an_t P Q E g ((tl K n 40 per s).t - s.t) s.t (tl K n 40 per s)
  have hh := i.2.2.2.1
  refine ⟨⟨w1, w2, w3, ?_, w5⟩, by rw [rnd_t]; omega⟩
  show (an P Q E g ((tl K n 40 per s).t - s.t) s.t (tl K n 40 per s)).hd + 1 ≤ (an P Q E g ((tl K n 40 per s).t - s.t) s.t (tl K n 40 per s)).t
  rw [e.1, e.2.1, c]; omega
theorem tc_hd {h : mH} {g : Int64} {s : Tk} (q : TC h g s) : TC (sI h 15 7 (nI (s.hd + 1))) g (tkHd s) := by
  obtain ⟨q0, q1, q2, q3, q4, q5, q6⟩ := q
  refine ⟨?_, ?_, ?_, ?_, ?_, ?_, fun i hi => ?_⟩
  · simp only [gI_sI, gJ_sJ, gI_sJ, gJ_sI, Nat.reduceEqDiff, eq_self, and_true, true_and, and_false, false_and, and_self, if_true, if_false, reduceIte, Nat.succ_ne_zero, q0]
  · simp only [gI_sI, gJ_sJ, gI_sJ, gJ_sI, Nat.reduceEqDiff, eq_self, and_true, true_and, and_false, false_and, and_self, if_true, if_false, reduceIte, Nat.succ_ne_zero, q1]; rfl
  · simp only [gI_sI, gJ_sJ, gI_sJ, gJ_sI, Nat.reduceEqDiff, eq_self, and_true, true_and, and_false, false_and, and_self, if_true, if_false, reduceIte, Nat.succ_ne_zero, q2]; rfl
  · simp only [gI_sI, gJ_sJ, gI_sJ, gJ_sI, Nat.reduceEqDiff, eq_self, and_true, true_and, and_false, false_and, and_self, if_true, if_false, reduceIte, Nat.succ_ne_zero, q3]; rfl
  · simp only [gI_sI, gJ_sJ, gI_sJ, gJ_sI, Nat.reduceEqDiff, eq_self, and_true, true_and, and_false, false_and, and_self, if_true, if_false, reduceIte, Nat.succ_ne_zero, q4]; rfl
  · simp only [gI_sI, gJ_sJ, gI_sJ, gJ_sI, Nat.reduceEqDiff, eq_self, and_true, true_and, and_false, false_and, and_self, if_true, if_false, reduceIte, Nat.succ_ne_zero]; rfl
  · simp only [gI_sI, gJ_sJ, gI_sJ, gJ_sI, Nat.reduceEqDiff, eq_self, and_true, true_and, and_false, false_and, and_self, if_true, if_false, reduceIte, Nat.succ_ne_zero]; exact q6 i hi
theorem tm_hd {h : mH} {g : Int64} {m : Nat} {s : Tk} (q : TM h g m s) : TM (sI h 27 22 (nI (s.hd + 1))) g m (tkHd s) := by
  obtain ⟨q0, q1, q2, q3, q4, q5, q6, q7⟩ := q
  refine ⟨?_, ?_, ?_, ?_, ?_, ?_, fun i hi => ?_, fun i hi => ?_⟩
  · simp only [gI_sI, gJ_sJ, gI_sJ, gJ_sI, Nat.reduceEqDiff, eq_self, and_true, true_and, and_false, false_and, and_self, if_true, if_false, reduceIte, Nat.succ_ne_zero, q0]
  · simp only [gI_sI, gJ_sJ, gI_sJ, gJ_sI, Nat.reduceEqDiff, eq_self, and_true, true_and, and_false, false_and, and_self, if_true, if_false, reduceIte, Nat.succ_ne_zero, q1]; rfl
  · simp only [gI_sI, gJ_sJ, gI_sJ, gJ_sI, Nat.reduceEqDiff, eq_self, and_true, true_and, and_false, false_and, and_self, if_true, if_false, reduceIte, Nat.succ_ne_zero, q2]; rfl
  · simp only [gI_sI, gJ_sJ, gI_sJ, gJ_sI, Nat.reduceEqDiff, eq_self, and_true, true_and, and_false, false_and, and_self, if_true, if_false, reduceIte, Nat.succ_ne_zero, q3]; rfl
  · simp only [gI_sI, gJ_sJ, gI_sJ, gJ_sI, Nat.reduceEqDiff, eq_self, and_true, true_and, and_false, false_and, and_self, if_true, if_false, reduceIte, Nat.succ_ne_zero, q4]; rfl
  · simp only [gI_sI, gJ_sJ, gI_sJ, gJ_sI, Nat.reduceEqDiff, eq_self, and_true, true_and, and_false, false_and, and_self, if_true, if_false, reduceIte, Nat.succ_ne_zero]; rfl
  · simp only [gI_sI, gJ_sJ, gI_sJ, gJ_sI, Nat.reduceEqDiff, eq_self, and_true, true_and, and_false, false_and, and_self, if_true, if_false, reduceIte, Nat.succ_ne_zero]; exact q6 i hi
  · simp only [gI_sI, gJ_sJ, gI_sJ, gJ_sI, Nat.reduceEqDiff, eq_self, and_true, true_and, and_false, false_and, and_self, if_true, if_false, reduceIte, Nat.succ_ne_zero]; exact q7 i hi
theorem talk_loop (g W : Int64) (per : Nat) (hper : per < 100) (hs : Int32) : ∀ (f st : Nat) (s : Tk) (h : mH) (o3 : Option Value), st + f = 40 → HC h n sl P Q K E → gJ h 15 1 = W → gI h 15 2 = nI per → gI h 15 3 = hs → TC h g s → TI n s → ∃ h', Ev 118 49 [some (.ref 15), some (.ref 1), some (.int (nI st)), o3] [] h = some (none, h') ∧ Sx [5] h h' ∧ TC h' g (tk n P Q K E W g per (decide (hs = 1)) f s)
  | 0, st, s, h, o3, hk, w, hW, hp, hh, q, i => by
    obtain rfl : st = 40 := by omega
    refine ⟨h, ?_, sx_refl _ _, q⟩
    rw [b118_49]
    simp (disch := omega) only [b118_122, e10, e01, em10, eq_self, lt0_nI, ge0_nI, cl_nI, le_nI, lt_nI, eq_nI, ne_m1, le40, lt40, gd_nI, nI_1, yle, nle, ylt, nlt, reduceIte, if_true, if_false, and_true, true_and, and_false, false_and, or_true, true_or, or_false, false_or, not_true_eq_false, not_false_eq_true, rI_some, rL_some, rV_some, rA_ref, rA_null, b01, b01', i01, lcmp0, lcmp_lt, lcmp_gt, om1, m1_lt0]
  | f + 1, st, s, h, o3, hk, w, hW, hp, hh, q, i => by
    have h40 := w.2.2.2.2.2.2.2.1
    have wf := w.2.2.2.2.2.2.2
    have q' := q
    obtain ⟨q0, q1, q2, q3, q4, q5, q6⟩ := q'
    rw [tk]
    by_cases h0 : s.pl = 0
    · rw [if_pos h0]
      refine ⟨h, ?_, sx_refl _ _, q⟩
      rw [b118_49]
      simp (disch := omega) only [b118_55, b118_122, e10, e01, em10, eq_self, lt0_nI, ge0_nI, cl_nI, le_nI, lt_nI, eq_nI, ne_m1, le40, lt40, gd_nI, nI_1, yle, nle, ylt, nlt, reduceIte, if_true, if_false, and_true, true_and, and_false, false_and, or_true, true_or, or_false, false_or, not_true_eq_false, not_false_eq_true, rI_some, rL_some, rV_some, rA_ref, rA_null, b01, b01', i01, lcmp0, lcmp_lt, lcmp_gt, om1, m1_lt0, q1, h0]
    rw [if_neg h0]
    obtain ⟨h1, e1, e2, e3⟩ := tell_loop g 40 0 per s h none rfl hper w q i
    have et : Rt 119 [.ref 15, .ref 1] h = some (none, h1) := by
      show Ev 119 0 [some (.ref 15), some (.ref 1), none, none, none] [] h = _
      rw [b119_0, hp]
      exact e1
    have w1 := hc_sx w e2 (by decide)
    obtain ⟨a, b, c, _⟩ := tl_inv K h40 40 per s i
    have ht1 := ti_t a
    have e36 : gI h1 15 6 = nI (tl K n 40 per s).t := e3.2.2.2.2.1
    by_cases hq : (tl K n 40 per s).t = s.t
    · rw [if_pos hq]
      refine ⟨h1, ?_, e2, e3⟩
      rw [b118_49]
      simp (disch := omega) only [b118_55, b118_64, b118_74, b118_82, e10, e01, em10, eq_self, lt0_nI, ge0_nI, cl_nI, le_nI, lt_nI, eq_nI, ne_m1, le40, lt40, gd_nI, nI_1, yle, nle, ylt, nlt, reduceIte, if_true, if_false, and_true, true_and, and_false, false_and, or_true, true_or, or_false, false_or, not_true_eq_false, not_false_eq_true, rI_some, rL_some, rV_some, rA_ref, rA_null, b01, b01', i01, lcmp0, lcmp_lt, lcmp_gt, om1, m1_lt0, q1, h0, et, e36, q4, hq]
    rw [if_neg hq]
    obtain ⟨h2, f1, f2, f3⟩ := answer_loop g (nI s.t) ((tl K n 40 per s).t - s.t) s.t (tl K n 40 per s) h1 none none none (by omega) w1 e3 a
    have ea : Rt 120 [.ref 15, .ref 1, .int (nI s.t)] h1 = some (none, h2) := by
      show Ev 120 0 [some (.ref 15), some (.ref 1), some (.int (nI s.t)), none, none, none, none] [] h1 = _
      rw [b120_0]
      exact f1
    obtain ⟨h3, e30⟩ : ∃ h3, h3 = sI h2 15 7 (nI ((an P Q E g ((tl K n 40 per s).t - s.t) s.t (tl K n 40 per s)).hd + 1)) := ⟨_, rfl⟩
    have s3 : Sx [5] h h3 := by rw [e30]; exact sx_sI (sx_trans e2 f2) (by decide)
    have w3 := hc_sx w s3 (by decide)
    have qh : TC h3 g (rnd n P Q K E g per s) := by rw [e30]; exact tc_hd f3
    obtain ⟨i3, hlt⟩ := ti_rnd wf g per i hq
    have hh3 : gI h3 15 3 = hs := by rw [(s3 15 3 (by decide)).1]; exact hh
    have hW3 : gJ h3 15 1 = W := by rw [(s3 15 1 (by decide)).2]; exact hW
    have hp3 : gI h3 15 2 = nI per := by rw [(s3 15 2 (by decide)).1]; exact hp
    have hcm3 : gJ h3 15 10 = (rnd n P Q K E g per s).cm := qh.2.2.2.1
    have f35 : gI h2 15 7 = nI (an P Q E g ((tl K n 40 per s).t - s.t) s.t (tl K n 40 per s)).hd := f3.2.2.2.2.2.1
    have ehd := (an_t P Q E g ((tl K n 40 per s).t - s.t) s.t (tl K n 40 per s)).2.1
    have hpre : Ev 118 49 [some (.ref 15), some (.ref 1), some (.int (nI st)), o3] [] h = (if ¬ hs = 1 then Ev 118 116 [some (.ref 15), some (.ref 1), some (.int (nI st)), some (.int (nI s.t))] [] h3 else Ev 118 107 [some (.ref 15), some (.ref 1), some (.int (nI st)), some (.int (nI s.t))] [] h3) := by
      have hq' : ¬ nI (tl K n 40 per s).t = nI s.t := by rw [eq_nI (by omega) (by omega)]; exact hq
      rw [b118_49]
      simp (disch := omega) only [b118_55, b118_64, b118_74, b118_83, e10, e01, em10, eq_self, lt0_nI, ge0_nI, cl_nI, le_nI, lt_nI, eq_nI, ne_m1, le40, lt40, gd_nI, nI_1, yle, nle, ylt, nlt, reduceIte, if_true, if_false, and_true, true_and, and_false, false_and, or_true, true_or, or_false, false_or, not_true_eq_false, not_false_eq_true, rI_some, rL_some, rV_some, rA_ref, rA_null, b01, b01', i01, lcmp0, lcmp_lt, lcmp_gt, om1, m1_lt0, q1, h0, et, e36, q4, hq, hq', ea]
      rw [b118_89, f35, show nI (an P Q E g ((tl K n 40 per s).t - s.t) s.t (tl K n 40 per s)).hd + 1 = nI ((an P Q E g ((tl K n 40 per s).t - s.t) s.t (tl K n 40 per s)).hd + 1) from nI_1 _, ← e30, hh3]
    rw [hpre]
    by_cases h6 : hs = 1
    · rw [if_neg (fun q => q h6)]
      by_cases h7 : sv W E (rnd n P Q K E g per s).cm n = true
      · rw [if_pos (by rw [h7, h6]; rfl)]
        refine ⟨h3, ?_, s3, qh⟩
        simp (disch := omega) only [b118_107, b118_112, b118_115, e10, e01, em10, eq_self, lt0_nI, ge0_nI, cl_nI, le_nI, lt_nI, eq_nI, ne_m1, le40, lt40, gd_nI, nI_1, yle, nle, ylt, nlt, reduceIte, if_true, if_false, and_true, true_and, and_false, false_and, or_true, true_or, or_false, false_or, not_true_eq_false, not_false_eq_true, rI_some, rL_some, rV_some, rA_ref, rA_null, b01, b01', i01, lcmp0, lcmp_lt, lcmp_gt, om1, m1_lt0, r_isServed w3, hW3, hcm3, h7]
      · rw [if_neg (by rw [Bool.eq_false_iff.mpr h7, h6]; simp)]
        obtain ⟨h', g1, g2, g3⟩ := talk_loop g W per hper hs f (st + 1) _ h3 (some (.int (nI s.t))) (by omega) w3 hW3 hp3 hh3 qh i3
        refine ⟨h', ?_, sx_trans s3 g2, g3⟩
        rw [← g1]
        simp (disch := omega) only [b118_107, b118_112, b118_116, e10, e01, em10, eq_self, lt0_nI, ge0_nI, cl_nI, le_nI, lt_nI, eq_nI, ne_m1, le40, lt40, gd_nI, nI_1, yle, nle, ylt, nlt, reduceIte, if_true, if_false, and_true, true_and, and_false, false_and, or_true, true_or, or_false, false_or, not_true_eq_false, not_false_eq_true, rI_some, rL_some, rV_some, rA_ref, rA_null, b01, b01', i01, lcmp0, lcmp_lt, lcmp_gt, om1, m1_lt0, r_isServed w3, hW3, hcm3, h7, Bool.false_eq_true]
    · rw [if_pos h6, if_neg (by simp [h6])]
      obtain ⟨h', g1, g2, g3⟩ := talk_loop g W per hper hs f (st + 1) _ h3 (some (.int (nI s.t))) (by omega) w3 hW3 hp3 hh3 qh i3
      refine ⟨h', ?_, sx_trans s3 g2, g3⟩
      rw [← g1]
      simp (disch := omega) only [b118_116, e10, e01, em10, eq_self, lt0_nI, ge0_nI, cl_nI, le_nI, lt_nI, eq_nI, ne_m1, le40, lt40, gd_nI, nI_1, yle, nle, ylt, nlt, reduceIte, if_true, if_false, and_true, true_and, and_false, false_and, or_true, true_or, or_false, false_or, not_true_eq_false, not_false_eq_true, rI_some, rL_some, rV_some, rA_ref, rA_null, b01, b01', i01, lcmp0, lcmp_lt, lcmp_gt, om1, m1_lt0]
/-- the model's rounds: from where it asks whether to go on -/
theorem talks_loop (g W : Int64) (per : Nat) (hper : per < 100) (hp0 : 0 < per) (hs : Int32) : ∀ (f : Nat) (s : Tk) (h : mH) (x1 : Int32) (o2 o3 o4 : Option Value), n ≤ s.t + f → HM h n sl P Q K E → gJ h 27 17 = W → gI h 27 14 = nI per → gI h 27 15 = hs → TM h g s.t s → TI n s → x1 = (if s.pl = 0 then 0 else 1) → ∃ h', Ev 105 58 [some (.ref 27), some (.int x1), o2, o3, o4] [] h = some (none, h') ∧ Sx [9] h h' ∧ TM h' g (tk n P Q K E W g per (decide (hs = 1)) f s).t (tk n P Q K E W g per (decide (hs = 1)) f s) := by
  intro f
  induction f with
  | zero =>
    intro s h x1 o2 o3 o4 hf w hW hp hh q i hx
    have h0 : s.pl = 0 := sub_zero_of_ct i.1 (by have := i.2.2.1; have := ct_le s.bn n; omega)
    rw [if_pos h0] at hx
    subst hx
    refine ⟨h, ?_, sx_refl _ _, q⟩
    rw [b105_58, if_pos rfl, b105_225]
  | succ f ih =>
    intro s h x1 o2 o3 o4 hf w hW hp hh q i hx
    have h40 := w.2.2.2.2.2.2.1
    have wf := w.2.2.2.2.2.2
    rw [tk]
    by_cases h0 : s.pl = 0
    · rw [if_pos h0] at hx
      subst hx
      rw [if_pos h0]
      refine ⟨h, ?_, sx_refl _ _, q⟩
      rw [b105_58, if_pos rfl, b105_225]
    rw [if_neg h0] at hx
    subst hx
    rw [if_neg h0]
    have ht := ti_t i
    have pre : Ev 105 58 [some (.ref 27), some (.int 1), o2, o3, o4] [] h = Ev 105 121 [some (.ref 27), some (.int 1), some (.int (nI s.t)), some (.int 0), o4] [] h := by
      rw [b105_121, hp, q.2.2.2.2.1, pk_sub (Nat.le_refl _), Nat.sub_self, if_neg (show ¬ nI per ≤ nI 0 by rw [le_nI (by omega) (by omega)]; omega)]
      simp (disch := omega) only [b105_58, b105_62, b105_71, b105_134, b105_138, b105_142, e10, e01, em10, eq_self, lt0_nI, ge0_nI, cl_nI, le_nI, lt_nI, eq_nI, ne_m1, le40, lt40, gd_nI, nI_1, yle, nle, ylt, nlt, reduceIte, if_true, if_false, and_true, true_and, and_false, false_and, or_true, true_or, or_false, false_or, not_true_eq_false, not_false_eq_true, rI_some, rL_some, rV_some, rA_ref, rA_null, b01, b01', i01, lcmp0, lcmp_lt, lcmp_gt, om1, m1_lt0, m_told w q, q.2.2.2.2.1]
    obtain ⟨h1, e1, e2, e3⟩ := mtell_loop g 1 s.t per (by omega) hper 40 per s h 0 o4 (ct_40 _ h40) rfl (Nat.le_refl _) w hp q i
    have w1 := hm_sx w e2 (by decide)
    obtain ⟨a, b, c, dd⟩ := tl_inv K h40 40 per s i
    have ht1 := ti_t a
    obtain ⟨h2, f1, f2, f3⟩ := mans_loop g 1 (nI s.t) (-1) ((tl K n 40 per s).t - s.t) s.t (tl K n 40 per s) h1 (by omega) w1 e3 a
    have et := an_t P Q E g ((tl K n 40 per s).t - s.t) s.t (tl K n 40 per s)
    have e23 : gI h2 27 23 = nI (tl K n 40 per s).t := by rw [f3.2.2.2.2.1, et.1]
    have e22 : gI h2 27 22 = nI (an P Q E g ((tl K n 40 per s).t - s.t) s.t (tl K n 40 per s)).hd := f3.2.2.2.2.2.1
    have s2 := sx_trans e2 f2
    have pre2 : Ev 105 58 [some (.ref 27), some (.int 1), o2, o3, o4] [] h = Ev 105 170 [some (.ref 27), some (.int 1), some (.int (nI s.t)), some (.int (-1)), some (.int (nI (tl K n 40 per s).t))] [] h2 := by
      rw [pre, e1, b105_146, f1]
    by_cases hq : (tl K n 40 per s).t = s.t
    · rw [if_pos hq]
      have hz := dd hq (ct_40 _ h40) hp0
      have ean : an P Q E g ((tl K n 40 per s).t - s.t) s.t (tl K n 40 per s) = tl K n 40 per s := by rw [hq, Nat.sub_self]; rfl
      rw [ean] at f3 e22
      obtain ⟨q0, q1, q2, q3, q4, q5, q6, q7⟩ := f3
      have z0 : ∀ m, nI m + 0 = nI m := fun m => by simp
      refine ⟨sI h2 27 22 (nI (tl K n 40 per s).hd), ?_, sx_sI s2 (by decide), ⟨by simp only [gI_sI, gJ_sJ, gI_sJ, gJ_sI, Nat.reduceEqDiff, eq_self, and_true, true_and, and_false, false_and, and_self, if_true, if_false, reduceIte, Nat.succ_ne_zero, q0], by simp only [gI_sI, gJ_sJ, gI_sJ, gJ_sI, Nat.reduceEqDiff, eq_self, and_true, true_and, and_false, false_and, and_self, if_true, if_false, reduceIte, Nat.succ_ne_zero, q1], by simp only [gI_sI, gJ_sJ, gI_sJ, gJ_sI, Nat.reduceEqDiff, eq_self, and_true, true_and, and_false, false_and, and_self, if_true, if_false, reduceIte, Nat.succ_ne_zero, q2], by simp only [gI_sI, gJ_sJ, gI_sJ, gJ_sI, Nat.reduceEqDiff, eq_self, and_true, true_and, and_false, false_and, and_self, if_true, if_false, reduceIte, Nat.succ_ne_zero, q3], by simp only [gI_sI, gJ_sJ, gI_sJ, gJ_sI, Nat.reduceEqDiff, eq_self, and_true, true_and, and_false, false_and, and_self, if_true, if_false, reduceIte, Nat.succ_ne_zero, q4], by simp only [gI_sI, gJ_sJ, gI_sJ, gJ_sI, Nat.reduceEqDiff, eq_self, and_true, true_and, and_false, false_and, and_self, if_true, if_false, reduceIte, Nat.succ_ne_zero], fun j hj => by simp only [gI_sI, gJ_sJ, gI_sJ, gJ_sI, Nat.reduceEqDiff, eq_self, and_true, true_and, and_false, false_and, and_self, if_true, if_false, reduceIte, Nat.succ_ne_zero]; exact q6 j hj, fun j hj => by simp only [gI_sI, gJ_sJ, gI_sJ, gJ_sI, Nat.reduceEqDiff, eq_self, and_true, true_and, and_false, false_and, and_self, if_true, if_false, reduceIte, Nat.succ_ne_zero]; exact q7 j hj⟩⟩
      rw [pre2, b105_170, e23, hq, if_pos (show nI s.t ≤ nI s.t by rw [le_nI (by omega) (by omega)]; omega), b105_187, b105_188, e22, z0]
      have q29 : gJ (sI h2 27 22 (nI (tl K n 40 per s).hd)) 27 29 = 0 := by simp only [gI_sI, gJ_sJ, gI_sJ, gJ_sI, Nat.reduceEqDiff, eq_self, and_true, true_and, and_false, false_and, and_self, if_true, if_false, reduceIte, Nat.succ_ne_zero, q1, hz]
      rw [q29, if_pos (show lg_cmp 0 0 = 0 by rw [lcmp0]), b105_220, b105_221, b105_58, if_pos rfl, b105_225]
    rw [if_neg hq]
    obtain ⟨i3, hlt⟩ := ti_rnd wf g per i hq
    obtain ⟨h3, e30⟩ : ∃ h3, h3 = sI h2 27 22 (nI ((an P Q E g ((tl K n 40 per s).t - s.t) s.t (tl K n 40 per s)).hd + 1)) := ⟨_, rfl⟩
    have s3 : Sx [9] h h3 := by rw [e30]; exact sx_sI s2 (by decide)
    have w3 := hm_sx w s3 (by decide)
    have qh : TM h3 g (rnd n P Q K E g per s).t (rnd n P Q K E g per s) := by rw [e30, rnd_t]; exact tm_hd f3
    have hh3 : gI h3 27 15 = hs := by rw [(s3 27 15 (by decide)).1]; exact hh
    have hW3 : gJ h3 27 17 = W := by rw [(s3 27 17 (by decide)).2]; exact hW
    have hp3 : gI h3 27 14 = nI per := by rw [(s3 27 14 (by decide)).1]; exact hp
    have hcm3 : gJ h3 27 27 = (rnd n P Q K E g per s).cm := qh.2.2.2.1
    have hpl3 : gJ h3 27 29 = (rnd n P Q K E g per s).pl := qh.2.1
    have ht3 : gI h3 27 23 = nI (tl K n 40 per s).t := by rw [qh.2.2.2.2.1, rnd_t]
    have hlt' : s.t < (tl K n 40 per s).t := by omega
    have pre3 : Ev 105 58 [some (.ref 27), some (.int 1), o2, o3, o4] [] h = (if (rnd n P Q K E g per s).pl = 0 then Ev 105 220 [some (.ref 27), some (.int 1), some (.int (nI s.t)), some (.int (-1)), some (.int (nI (tl K n 40 per s).t))] [] h3 else Ev 105 209 [some (.ref 27), some (.int 1), some (.int (nI s.t)), some (.int (-1)), some (.int (nI (tl K n 40 per s).t))] [] h3) := by
      rw [pre2, b105_170, e23, if_neg (show ¬ nI (tl K n 40 per s).t ≤ nI s.t by rw [le_nI (by omega) (by omega)]; omega), b105_183, b105_188, e22, show nI (an P Q E g ((tl K n 40 per s).t - s.t) s.t (tl K n 40 per s)).hd + 1 = nI ((an P Q E g ((tl K n 40 per s).t - s.t) s.t (tl K n 40 per s)).hd + 1) from nI_1 _, ← e30, hpl3]
      simp only [lcmp0]
      rw [b105_201, ht3, if_neg (show ¬ nI (tl K n 40 per s).t ≤ nI s.t by rw [le_nI (by omega) (by omega)]; omega)]
    rw [pre3]
    have hen := r_isEnough w3
    rw [hh3, hW3, hcm3] at hen
    by_cases hz : (rnd n P Q K E g per s).pl = 0
    · rw [if_pos hz]
      have etk : tk n P Q K E W g per (decide (hs = 1)) f (rnd n P Q K E g per s) = rnd n P Q K E g per s := by cases f <;> simp [tk, hz]
      rw [etk, ite_self]
      refine ⟨h3, ?_, s3, qh⟩
      rw [b105_220, b105_221, b105_58, if_pos rfl, b105_225]
    · rw [if_neg hz]
      by_cases h7 : (decide (hs = 1) && sv W E (rnd n P Q K E g per s).cm n) = true
      · rw [if_pos h7]
        rw [if_pos h7] at hen
        refine ⟨h3, ?_, s3, qh⟩
        rw [b105_209, hen, rI_some, b105_213, if_pos (show ¬ (1 : Int32) = 0 by decide), b105_220, b105_221, b105_58, if_pos rfl, b105_225]
      · rw [if_neg h7]
        rw [if_neg h7] at hen
        obtain ⟨h', g1, g2, g3⟩ := ih _ h3 1 (some (.int (nI s.t))) (some (.int (-1))) (some (.int (nI (tl K n 40 per s).t))) (by omega) w3 hW3 hp3 hh3 qh i3 (by rw [if_neg hz])
        refine ⟨h', ?_, sx_trans s3 g2, g3⟩
        rw [← g1, b105_209, hen, rI_some, b105_213, if_neg (show ¬ ¬ (0 : Int32) = 0 by decide), b105_216, b105_221]
end TW
