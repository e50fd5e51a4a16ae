/-! The talk: what is told in one round. -/
abbrev Tk : Type := Int64 × Int64 × Int64 × Nat × Nat × (Nat → Int32) × (Nat → Int32)
abbrev Tk.pl (s : Tk) : Int64 := s.1
abbrev Tk.bn (s : Tk) : Int64 := s.2.1
abbrev Tk.cm (s : Tk) : Int64 := s.2.2.1
abbrev Tk.t (s : Tk) : Nat := s.2.2.2.1
abbrev Tk.hd (s : Tk) : Nat := s.2.2.2.2.1
abbrev Tk.tc (s : Tk) : Nat → Int32 := s.2.2.2.2.2.1
abbrev Tk.tr (s : Tk) : Nat → Int32 := s.2.2.2.2.2.2
theorem le0_nI {a : Nat} (ha : a < 2147483648) : (nI a ≤ 0) = (a = 0) := by
  have := le_nI (b := 0) ha (by omega)
  rw [nI_0'] at this
  rw [this]; exact propext ⟨fun q => by omega, fun q => by omega⟩
def up (f : Nat → Int32) (k : Nat) (x : Int32) : Nat → Int32 := fun j => if j = k then x else f j
def tkOff (s : Tk) (c : Nat) : Tk := (s.pl &&& (ob c ^^^ (-1)), s.bn, s.cm, s.t, s.hd, s.tc, s.tr)
def tkTell (s : Tk) (c : Nat) : Tk := (s.pl &&& (ob c ^^^ (-1)), s.bn, s.cm, s.t + 1, s.hd, up s.tc s.t (nI c), up s.tr s.t (nI s.hd))
def tl (K : Nat → Int32) (n : Nat) : Nat → Nat → Tk → Tk
  | 0, _, s => s
  | f + 1, left, s => if left = 0 ∨ s.pl = 0 then s else if bt s.cm (tG K s.pl n).toNatClampNeg = true then tl K n f left (tkOff s (tG K s.pl n).toNatClampNeg) else tl K n f (left - 1) (tkTell s (tG K s.pl n).toNatClampNeg)
def TI (n : Nat) (s : Tk) : Prop := sub s.pl n ∧ sub s.bn n ∧ s.t + ct s.pl n ≤ ct s.bn n ∧ s.hd ≤ s.t ∧ ∀ i, i < s.t → ∃ c, c < n ∧ s.tc i = nI c
def TC (h : mH) (g : Int64) (s : Tk) : Prop := gJ h 15 11 = g ∧ gJ h 15 8 = s.pl ∧ gJ h 15 9 = s.bn ∧ gJ h 15 10 = s.cm ∧ gI h 15 6 = nI s.t ∧ gI h 15 7 = nI s.hd ∧ ∀ i, i < s.t → gI h 16 i = s.tc i ∧ gI h 17 i = s.tr i
def TM (h : mH) (g : Int64) (m : Nat) (s : Tk) : Prop := gJ h 27 28 = g ∧ gJ h 27 29 = s.pl ∧ gJ h 27 30 = s.bn ∧ gJ h 27 27 = s.cm ∧ gI h 27 23 = nI s.t ∧ gI h 27 22 = nI s.hd ∧ (∀ i, i < s.t → gI h 40 i = s.tc i ∧ gI h 42 i = s.tr i) ∧ ∀ i, i < m → gI h 41 i = if bt g (s.tc i).toNatClampNeg = true then 1 else 0
theorem ti_t {n : Nat} {s : Tk} (w : TI n s) : s.t ≤ n := by have := w.2.2.1; have := ct_le s.bn n; omega
theorem ti_lt {n : Nat} {s : Tk} (h40 : n ≤ 64) (w : TI n s) {c : Nat} (hc : c < n) (hb : bt s.pl c = true) : s.t < n := by
  have h1 := w.2.2.1; have h2 := ct_le s.bn n; have h3 := ct_del hc hb h40
  omega
theorem ti_off {n : Nat} {s : Tk} (h40 : n ≤ 64) (w : TI n s) {c : Nat} (hc : c < n) (hb : bt s.pl c = true) : TI n (tkOff s c) := by
  obtain ⟨w1, w2, w3, w4, w5⟩ := w
  have h3 := ct_del hc hb h40
  exact ⟨sub_andl w1, w2, by show s.t + ct (s.pl &&& (ob c ^^^ (-1))) n ≤ ct s.bn n; omega, w4, w5⟩
theorem ti_tell {n : Nat} {s : Tk} (h40 : n ≤ 64) (w : TI n s) {c : Nat} (hc : c < n) (hb : bt s.pl c = true) : TI n (tkTell s c) := by
  obtain ⟨w1, w2, w3, w4, w5⟩ := w
  have h3 := ct_del hc hb h40
  refine ⟨sub_andl w1, w2, by show s.t + 1 + ct (s.pl &&& (ob c ^^^ (-1))) n ≤ ct s.bn n; omega, by show s.hd ≤ s.t + 1; omega, fun i hi => ?_⟩
  show ∃ c', c' < n ∧ up s.tc s.t (nI c) i = nI c'
  by_cases h1 : i = s.t
  · exact ⟨c, hc, by rw [up, if_pos h1]⟩
  · obtain ⟨c', h2, h3⟩ := w5 i (by have : i < s.t + 1 := hi; omega)
    exact ⟨c', h2, by rw [up, if_neg h1]; exact h3⟩
theorem tl_0 (K : Nat → Int32) (n f : Nat) (s : Tk) : tl K n f 0 s = s := by cases f <;> simp [tl]
theorem tl_p (K : Nat → Int32) (n f left : Nat) (s : Tk) (h : s.pl = 0) : tl K n f left s = s := by cases f <;> simp [tl, h]
theorem tl_in {K : Nat → Int32} {n f left c : Nat} {s : Tk} (h1 : ¬ left = 0) (h2 : ¬ s.pl = 0) (ht : tG K s.pl n = nI c) (hc : c < 40) (hb : bt s.cm c = true) : tl K n (f + 1) left s = tl K n f left (tkOff s c) := by
  rw [tl, if_neg (fun q => q.elim h1 h2), ht, cl_nI (by omega), if_pos hb]
theorem tl_out {K : Nat → Int32} {n f left c : Nat} {s : Tk} (h1 : ¬ left = 0) (h2 : ¬ s.pl = 0) (ht : tG K s.pl n = nI c) (hc : c < 40) (hb : ¬ bt s.cm c = true) : tl K n (f + 1) left s = tl K n f (left - 1) (tkTell s c) := by
  rw [tl, if_neg (fun q => q.elim h1 h2), ht, cl_nI (by omega), if_neg hb]
/-- what one telling keeps -/
theorem tl_inv (K : Nat → Int32) {n : Nat} (h40 : n ≤ 40) : ∀ (f left : Nat) (s : Tk), TI n s → TI n (tl K n f left s) ∧ s.t ≤ (tl K n f left s).t ∧ (tl K n f left s).hd = s.hd ∧ ((tl K n f left s).t = s.t → ct s.pl n ≤ f → 0 < left → (tl K n f left s).pl = 0)
  | 0, left, s, w => ⟨w, Nat.le_refl _, rfl, fun _ h _ => sub_zero_of_ct w.1 (by show ct s.pl n = 0; omega)⟩
  | f + 1, left, s, w => by
    by_cases h1 : left = 0
    · subst h1; rw [tl_0]; exact ⟨w, Nat.le_refl _, rfl, fun _ _ h => absurd h (by omega)⟩
    by_cases h2 : s.pl = 0
    · rw [tl_p _ _ _ _ _ h2]; exact ⟨w, Nat.le_refl _, rfl, fun _ _ _ => h2⟩
    obtain ⟨c, hc, ht, hb⟩ := top_of (g := K) h40 w.1 h2
    have h3 := ct_del hc hb (by omega)
    by_cases h4 : bt s.cm c = true
    · rw [tl_in h1 h2 ht (by omega) h4]
      obtain ⟨a, b, d, e⟩ := tl_inv K h40 f left (tkOff s c) (ti_off (by omega) w hc hb)
      exact ⟨a, b, d, fun q1 q2 q3 => e q1 (by show ct (s.pl &&& (ob c ^^^ (-1))) n ≤ f; omega) q3⟩
    · rw [tl_out h1 h2 ht (by omega) h4]
      obtain ⟨a, b, d, e⟩ := tl_inv K h40 f (left - 1) (tkTell s c) (ti_tell (by omega) w hc hb)
      have b' : s.t + 1 ≤ (tl K n f (left - 1) (tkTell s c)).t := b
      exact ⟨a, by omega, d, fun q1 q2 q3 => by omega⟩
section TL
variable {n sl : Nat} {P Q K : Nat → Int32} {E : Nat → Int64}
theorem w_K0 (w : WF n P Q K E) : ∀ c, c < n → 0 ≤ K c := fun c hc => by
  obtain ⟨_, _, _, _, r, h1, h2, h3, _⟩ := w.2 c hc
  have := w.1
  rw [h3, ge0_nI (by omega)]; trivial
theorem c_topK {h : mH} (w : HC h n sl P Q K E) (s : Int64) : Rt 145 [.ref 1, .long s] h = some (some (.int (tG K s n)), h) := by
  obtain ⟨w1, w2, w3, w4, w5, w6, w7, w8⟩ := w
  rw [r_topK w1 w8.1 (by rw [w6]; exact w_K0 w8), w6]
theorem tc_off {h : mH} {g : Int64} {s : Tk} (q : TC h g s) (c : Nat) : TC (sJ h 15 8 (s.pl &&& (ob c ^^^ (-1)))) g (tkOff s c) := by
  obtain ⟨q0, q1, q2, q3, q4, q5, q6⟩ := q
  refine ⟨?_, ?_, ?_, ?_, ?_, ?_, fun i hi => ?_⟩
  · simp only [gI_sI, gJ_sJ, gI_sJ, gJ_sI, Nat.reduceEqDiff, eq_self, and_true, true_and, and_false, false_and, and_self, if_true, if_false, reduceIte, Nat.succ_ne_zero, q0]
  · simp only [gI_sI, gJ_sJ, gI_sJ, gJ_sI, Nat.reduceEqDiff, eq_self, and_true, true_and, and_false, false_and, and_self, if_true, if_false, reduceIte, Nat.succ_ne_zero]; rfl
  · simp only [gI_sI, gJ_sJ, gI_sJ, gJ_sI, Nat.reduceEqDiff, eq_self, and_true, true_and, and_false, false_and, and_self, if_true, if_false, reduceIte, Nat.succ_ne_zero, q2]; rfl
  · simp only [gI_sI, gJ_sJ, gI_sJ, gJ_sI, Nat.reduceEqDiff, eq_self, and_true, true_and, and_false, false_and, and_self, if_true, if_false, reduceIte, Nat.succ_ne_zero, q3]; rfl
  · simp only [gI_sI, gJ_sJ, gI_sJ, gJ_sI, Nat.reduceEqDiff, eq_self, and_true, true_and, and_false, false_and, and_self, if_true, if_false, reduceIte, Nat.succ_ne_zero, q4]; rfl
  · simp only [gI_sI, gJ_sJ, gI_sJ, gJ_sI, Nat.reduceEqDiff, eq_self, and_true, true_and, and_false, false_and, and_self, if_true, if_false, reduceIte, Nat.succ_ne_zero, q5]; rfl
  · simp only [gI_sI, gJ_sJ, gI_sJ, gJ_sI, Nat.reduceEqDiff, eq_self, and_true, true_and, and_false, false_and, and_self, if_true, if_false, reduceIte, Nat.succ_ne_zero]; exact q6 i hi
theorem tc_tell {h : mH} {g : Int64} {s : Tk} (q : TC h g s) (c : Nat) : TC (sI (sI (sI (sJ h 15 8 (s.pl &&& (ob c ^^^ (-1)))) 16 s.t (nI c)) 17 s.t (nI s.hd)) 15 6 (nI (s.t + 1))) g (tkTell s c) := by
  obtain ⟨q0, q1, q2, q3, q4, q5, q6⟩ := q
  refine ⟨?_, ?_, ?_, ?_, ?_, ?_, fun i hi => ?_⟩
  · simp only [gI_sI, gJ_sJ, gI_sJ, gJ_sI, Nat.reduceEqDiff, eq_self, and_true, true_and, and_false, false_and, and_self, if_true, if_false, reduceIte, Nat.succ_ne_zero, q0]
  · simp only [gI_sI, gJ_sJ, gI_sJ, gJ_sI, Nat.reduceEqDiff, eq_self, and_true, true_and, and_false, false_and, and_self, if_true, if_false, reduceIte, Nat.succ_ne_zero]; rfl
  · simp only [gI_sI, gJ_sJ, gI_sJ, gJ_sI, Nat.reduceEqDiff, eq_self, and_true, true_and, and_false, false_and, and_self, if_true, if_false, reduceIte, Nat.succ_ne_zero, q2]; rfl
  · simp only [gI_sI, gJ_sJ, gI_sJ, gJ_sI, Nat.reduceEqDiff, eq_self, and_true, true_and, and_false, false_and, and_self, if_true, if_false, reduceIte, Nat.succ_ne_zero, q3]; rfl
  · simp only [gI_sI, gJ_sJ, gI_sJ, gJ_sI, Nat.reduceEqDiff, eq_self, and_true, true_and, and_false, false_and, and_self, if_true, if_false, reduceIte, Nat.succ_ne_zero]; rfl
  · simp only [gI_sI, gJ_sJ, gI_sJ, gJ_sI, Nat.reduceEqDiff, eq_self, and_true, true_and, and_false, false_and, and_self, if_true, if_false, reduceIte, Nat.succ_ne_zero, q5]; rfl
  · show _ = up s.tc s.t (nI c) i ∧ _ = up s.tr s.t (nI s.hd) i
    have hi' : i < s.t + 1 := hi
    unfold up
    by_cases h1 : i = s.t
    · subst h1; constructor <;> simp [gI_sI, gI_sJ]
    · have := q6 i (by omega)
      constructor <;> simp [gI_sI, gI_sJ, h1, this]
theorem tell_loop (g : Int64) : ∀ (f st left : Nat) (s : Tk) (h : mH) (o4 : Option Value), st + f = 40 → left < 100 → HC h n sl P Q K E → TC h g s → TI n s → ∃ h', Ev 119 7 [some (.ref 15), some (.ref 1), some (.int (nI left)), some (.int (nI st)), o4] [] h = some (none, h') ∧ Sx [5] h h' ∧ TC h' g (tl K n f left s)
  | 0, st, left, s, h, o4, hk, hl, w, q, i => by
    obtain rfl : st = 40 := by omega
    refine ⟨h, ?_, sx_refl _ _, q⟩
    rw [b119_7]
    simp (disch := omega) only [b119_121, e10, e01, em10, eq_self, lt0_nI, ge0_nI, cl_nI, le_nI, lt_nI, eq_nI, ne_m1, le40, lt40, gd_nI, nI_1, yle, nle, ylt, nlt, reduceIte, if_true, if_false, and_true, true_and, and_false, false_and, or_true, true_or, or_false, false_or, not_true_eq_false, not_false_eq_true, rI_some, rL_some, rV_some, rA_ref, rA_null, b01, b01', i01, lcmp0, lcmp_lt, lcmp_gt, om1, m1_lt0]
  | f + 1, st, left, s, h, o4, hk, hl, w, q, i => by
    have h40 := w.2.2.2.2.2.2.2.1
    have m15 : ∀ j, 6 ≤ j → rg 15 j ∈ [5] := fun j hj => by simp [rg, hj]
    have m16 : ∀ j, rg 16 j ∈ [5] := fun j => by rw [rg16]; exact List.mem_singleton.mpr rfl
    have m17 : ∀ j, rg 17 j ∈ [5] := fun j => by rw [rg17]; exact List.mem_singleton.mpr rfl
    have q' := q
    obtain ⟨q0, q1, q2, q3, q4, q5, q6⟩ := q'
    by_cases h1 : left = 0
    · subst h1; rw [tl_0]
      refine ⟨h, ?_, sx_refl _ _, q⟩
      rw [b119_7]
      simp (disch := omega) only [b119_13, b119_121, e10, e01, em10, eq_self, lt0_nI, ge0_nI, cl_nI, le_nI, lt_nI, eq_nI, ne_m1, le40, lt40, gd_nI, nI_1, yle, nle, ylt, nlt, reduceIte, if_true, if_false, and_true, true_and, and_false, false_and, or_true, true_or, or_false, false_or, not_true_eq_false, not_false_eq_true, rI_some, rL_some, rV_some, rA_ref, rA_null, b01, b01', i01, lcmp0, lcmp_lt, lcmp_gt, om1, m1_lt0, le0_nI]
    by_cases h2 : s.pl = 0
    · rw [tl_p _ _ _ _ _ h2]
      refine ⟨h, ?_, sx_refl _ _, q⟩
      rw [b119_7]
      simp (disch := omega) only [b119_13, b119_17, b119_121, e10, e01, em10, eq_self, lt0_nI, ge0_nI, cl_nI, le_nI, lt_nI, eq_nI, ne_m1, le40, lt40, gd_nI, nI_1, yle, nle, ylt, nlt, reduceIte, if_true, if_false, and_true, true_and, and_false, false_and, or_true, true_or, or_false, false_or, not_true_eq_false, not_false_eq_true, rI_some, rL_some, rV_some, rA_ref, rA_null, b01, b01', i01, lcmp0, lcmp_lt, lcmp_gt, om1, m1_lt0, q1, h2]
      split <;> rfl
    obtain ⟨c, hc, ht, hb⟩ := top_of (g := K) h40 i.1 h2
    have ht40 := ti_lt (by omega) i hc hb
    obtain ⟨h3, e3⟩ : ∃ h3, h3 = sJ h 15 8 (s.pl &&& (ob c ^^^ (-1))) := ⟨_, rfl⟩
    have s3 : Sx [5] h h3 := by rw [e3]; exact sx_sJ (sx_refl _ _) (m15 _ (by omega))
    have w3 := hc_sx w s3 (by decide)
    have qo := tc_off q c
    rw [← e3] at qo
    have pre : Ev 119 7 [some (.ref 15), some (.ref 1), some (.int (nI left)), some (.int (nI st)), o4] [] h = Ev 119 63 [some (.ref 15), some (.ref 1), some (.int (nI left)), some (.int (nI st)), some (.int (nI c))] [.int (if bt s.cm c = true then 1 else 0)] h3 := by
      have q3' : gJ h3 15 10 = s.cm := qo.2.2.2.1
      rw [b119_7]
      simp (disch := omega) only [b119_13, b119_17, b119_26, b119_34, e10, e01, em10, eq_self, lt0_nI, ge0_nI, cl_nI, le_nI, lt_nI, eq_nI, ne_m1, le40, lt40, gd_nI, nI_1, yle, nle, ylt, nlt, reduceIte, if_true, if_false, and_true, true_and, and_false, false_and, or_true, true_or, or_false, false_or, not_true_eq_false, not_false_eq_true, rI_some, rL_some, rV_some, rA_ref, rA_null, b01, b01', i01, lcmp0, lcmp_lt, lcmp_gt, om1, m1_lt0, q1, h2, c_topK w, ht, r_bit]
      rw [if_neg (show ¬ nI left ≤ 0 by rw [le0_nI (by omega)]; exact h1), b119_46, ← e3, q3', r_isIn (by omega), rI_some]
    rw [pre]
    by_cases h4 : bt s.cm c = true
    · rw [tl_in h1 h2 ht (by omega) h4]
      obtain ⟨h', f1, f2, f3⟩ := tell_loop g f (st + 1) left (tkOff s c) h3 (some (.int (nI c))) (by omega) hl w3 qo (ti_off (by omega) i hc hb)
      refine ⟨h', ?_, sx_trans s3 f2, f3⟩
      rw [← f1]
      simp (disch := omega) only [b119_63, b119_115, e10, e01, em10, eq_self, lt0_nI, ge0_nI, cl_nI, le_nI, lt_nI, eq_nI, ne_m1, le40, lt40, gd_nI, nI_1, yle, nle, ylt, nlt, reduceIte, if_true, if_false, and_true, true_and, and_false, false_and, or_true, true_or, or_false, false_or, not_true_eq_false, not_false_eq_true, rI_some, rL_some, rV_some, rA_ref, rA_null, b01, b01', i01, lcmp0, lcmp_lt, lcmp_gt, om1, m1_lt0, h4]
    · rw [tl_out h1 h2 ht (by omega) h4]
      obtain ⟨h4', e4⟩ : ∃ h4', h4' = sI (sI (sI (sJ h 15 8 (s.pl &&& (ob c ^^^ (-1)))) 16 s.t (nI c)) 17 s.t (nI s.hd)) 15 6 (nI (s.t + 1)) := ⟨_, rfl⟩
      have s4 : Sx [5] h h4' := by rw [e4, ← e3]; exact sx_sI (sx_sI (sx_sI s3 (m16 _)) (m17 _)) (m15 _ (by omega))
      have qt := tc_tell q c
      rw [← e4] at qt
      obtain ⟨h', f1, f2, f3⟩ := tell_loop g f (st + 1) (left - 1) (tkTell s c) h4' (some (.int (nI c))) (by omega) (by omega) (hc_sx w s4 (by decide)) qt (ti_tell (by omega) i hc hb)
      refine ⟨h', ?_, sx_trans s4 f2, f3⟩
      have a6 : gI h3 15 6 = nI s.t := qo.2.2.2.2.1
      have a7 : gI h3 15 7 = nI s.hd := qo.2.2.2.2.2.1
      have a6' : gI (sI h3 16 s.t (nI c)) 15 6 = nI s.t := by simp only [gI_sI, gJ_sJ, gI_sJ, gJ_sI, Nat.reduceEqDiff, eq_self, and_true, true_and, and_false, false_and, and_self, if_true, if_false, reduceIte, Nat.succ_ne_zero, a6]
      have a7' : gI (sI h3 16 s.t (nI c)) 15 7 = nI s.hd := by simp only [gI_sI, gJ_sJ, gI_sJ, gJ_sI, Nat.reduceEqDiff, eq_self, and_true, true_and, and_false, false_and, and_self, if_true, if_false, reduceIte, Nat.succ_ne_zero, a7]
      have a6'' : gI (sI (sI h3 16 s.t (nI c)) 17 s.t (nI s.hd)) 15 6 = nI s.t := by simp only [gI_sI, gJ_sJ, gI_sJ, gJ_sI, Nat.reduceEqDiff, eq_self, and_true, true_and, and_false, false_and, and_self, if_true, if_false, reduceIte, Nat.succ_ne_zero, a6]
      rw [← f1]
      simp (disch := omega) only [b119_63, b119_66, b119_78, b119_89, e10, e01, em10, eq_self, lt0_nI, ge0_nI, cl_nI, le_nI, lt_nI, eq_nI, ne_m1, le40, lt40, gd_nI, nI_1, yle, nle, ylt, nlt, reduceIte, if_true, if_false, and_true, true_and, and_false, false_and, or_true, true_or, or_false, false_or, not_true_eq_false, not_false_eq_true, rI_some, rL_some, rV_some, rA_ref, rA_null, b01, b01', i01, lcmp0, lcmp_lt, lcmp_gt, om1, m1_lt0, h4, Bool.false_eq_true, a6, a6', a7']
      rw [b119_102, a6'', e4, e3, b119_115]
      obtain ⟨l, rfl⟩ : ∃ l, left = l + 1 := ⟨left - 1, by omega⟩
      rw [show l + 1 - 1 = l from rfl]
      simp (disch := omega) only [e10, e01, em10, eq_self, lt0_nI, ge0_nI, cl_nI, le_nI, lt_nI, eq_nI, ne_m1, le40, lt40, gd_nI, nI_1, yle, nle, ylt, nlt, reduceIte, if_true, if_false, and_true, true_and, and_false, false_and, or_true, true_or, or_false, false_or, not_true_eq_false, not_false_eq_true, rI_some, rL_some, rV_some, rA_ref, rA_null, b01, b01', i01, lcmp0, lcmp_lt, lcmp_gt, om1, m1_lt0, nI_m1]
end TL
