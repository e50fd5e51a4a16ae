/-! BASES by colours: one function; the class computes it. -/
def ifs (b : Bool) (s t : Int64) : Int64 := if b = true then s ||| t else s
def ptI (n : Nat) (g : Nat → Int32) (pr : Nat → Int64) : Nat → Int64 → Int64 → Int64 → Int64 → Int64 → Int64 → Nat → Int64 × Nat
  | 0, _, _, _, _, _, found, cnt => (found, cnt)
  | k + 1, one, two, stale, pile, been, found, cnt => if pile &&& (stale ^^^ (-1)) = 0 then (found, cnt) else
      ptI n g pr k (ifs (bt one (tG g pile n).toNatClampNeg) one (pr (tG g pile n).toNatClampNeg)) (ifs (bt two (tG g pile n).toNatClampNeg) two (pr (tG g pile n).toNatClampNeg))
        (ifs (bt stale (tG g pile n).toNatClampNeg || (bt one (tG g pile n).toNatClampNeg && bt two (tG g pile n).toNatClampNeg)) stale (pr (tG g pile n).toNatClampNeg))
        ((pile &&& (ob (tG g pile n).toNatClampNeg ^^^ (-1))) ||| (pr (tG g pile n).toNatClampNeg &&& (been ^^^ (-1)))) (been ||| pr (tG g pile n).toNatClampNeg)
        (ifs ((bt one (tG g pile n).toNatClampNeg && bt two (tG g pile n).toNatClampNeg) && !bt stale (tG g pile n).toNatClampNeg) found (ob (tG g pile n).toNatClampNeg)) (cnt + 1)
section PT
variable {n sl : Nat} {P Q K : Nat → Int32} {E : Nat → Int64}
theorem found_ifs {c : Nat} (hc : c < 64) (one two stale found : Int64) : found ||| (((ob c &&& one) &&& two) &&& (stale ^^^ (-1))) = ifs ((bt one c && bt two c) && !bt stale c) found (ob c) := by
  apply bt_ext
  intro j hj
  unfold ifs
  rw [bt_or, bt_and, bt_and, bt_and, bt_not _ hj, bt_ob hc]
  by_cases hjc : j = c
  · subst hjc
    cases bt one j <;> cases bt two j <;> cases bt stale j <;> simp [bt_or, bt_ob hc]
  · cases bt one c <;> cases bt two c <;> cases bt stale c <;> simp [bt_or, bt_ob hc, hjc]
theorem r_ppassOn {h : mH} {c : Nat} (hc : c < 40) (ps : Int64) : ∃ h1, Rt 154 [.ref 10, .int (nI c), .long ps] h = some (none, h1) ∧ Sx [2] h h1 ∧ gJ h1 10 0 = ifs (bt (gJ h 10 0) c) (gJ h 10 0) ps ∧ gJ h1 10 1 = ifs (bt (gJ h 10 1) c) (gJ h 10 1) ps ∧ gJ h1 10 2 = ifs (bt (gJ h 10 2) c || (bt (gJ h 10 0) c && bt (gJ h 10 1) c)) (gJ h 10 2) ps ∧ gJ h1 10 3 = gJ h 10 3 ||| (ps &&& (gJ h 10 4 ^^^ (-1))) ∧ gJ h1 10 4 = gJ h 10 4 ||| ps ∧ gJ h1 10 5 = gJ h 10 5 ∧ gI h1 10 6 = gI h 10 6 := by
  have r2 : ∀ j, rg 10 j ∈ [2] := fun j => by rw [rg10]; exact List.mem_singleton.mpr rfl
  have e : ∀ h' : mH, bt (gJ h' 10 2 ||| (gJ h' 10 0 &&& gJ h' 10 1)) c = (bt (gJ h' 10 2) c || (bt (gJ h' 10 0) c && bt (gJ h' 10 1) c)) := fun h' => by rw [bt_or, bt_and]
  show ∃ h1, Ev 154 0 [some (.ref 10), some (.int (nI c)), some (.long ps), none] [] h = some (none, h1) ∧ _
  simp only [b154_0, b154_18, b154_21, b154_31, b154_39, b154_42, b154_52, b154_60, b154_63, b154_73, r_isIn hc, e10, e01, em10, eq_self, lt0_nI, ge0_nI, cl_nI, le_nI, lt_nI, eq_nI, ne_m1, le40, lt40, gd_nI, nI_1, yle, nle, ylt, nlt, reduceIte, if_true, if_false, and_true, true_and, and_false, false_and, or_true, true_or, or_false, false_or, not_true_eq_false, not_false_eq_true, rI_some, rL_some, rV_some, rA_ref, rA_null, b01, b01', i01, lcmp0, lcmp_lt, lcmp_gt, om1, m1_lt0, e, ifs]
  cases hst : (bt (gJ h 10 2) c || (bt (gJ h 10 0) c && bt (gJ h 10 1) c)) <;> cases h0 : bt (gJ h 10 0) c <;> cases h1 : bt (gJ h 10 1) c <;>
    simp only [h0, h1, gI_sI, gJ_sJ, gI_sJ, gJ_sI, Nat.reduceEqDiff, eq_self, and_true, true_and, and_false, false_and, and_self, if_true, if_false, reduceIte, Nat.succ_ne_zero, Bool.false_eq_true, not_true_eq_false, not_false_eq_true] <;>
    refine ⟨_, rfl, ?_, ?_⟩
  all_goals first
    | (simp only [gI_sI, gJ_sJ, gI_sJ, gJ_sI, Nat.reduceEqDiff, eq_self, and_true, true_and, and_false, false_and, and_self, if_true, if_false, reduceIte, Nat.succ_ne_zero]; done)
    | (simp only [gI_sI, gJ_sJ, gI_sJ, gJ_sI, Nat.reduceEqDiff, eq_self, and_true, true_and, and_false, false_and, and_self, if_true, if_false, reduceIte, Nat.succ_ne_zero, and_self]; done)
    | (repeat (first | exact sx_refl _ _ | refine sx_sJ ?_ (r2 _)))
end PT
