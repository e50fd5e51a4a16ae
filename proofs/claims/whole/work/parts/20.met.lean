/-! LOOKING meets what is reached. -/
section MET
variable {n sl : Nat} {P Q K : Nat → Int32} {E : Nat → Int64}
theorem w_rank (w : WF n P Q K E) {c : Nat} (hc : c < n) : ∃ r, 1 ≤ r ∧ r ≤ 40 ∧ K c = nI r := by
  obtain ⟨-, -, -, -, r, h1, h2, h3, -⟩ := w.2 c hc
  have := w.1
  exact ⟨r, h1, by omega, h3⟩
theorem rank_mono (w : WF n P Q K E) : ∀ d, d < n → ∀ a, bt (E d) a = true → K a ≤ K d := by
  intro d
  induction d using Nat.strongRecOn with
  | ind d ih =>
    intro hd a ha
    rcases (w_bt w hd a).mp ha with h | ⟨p, h1, h2, h3⟩
    · subst h; exact Int32.le_refl _
    · have hp := ih p h1 (by omega) a h3
      obtain ⟨-, -, -, -, r, r1, r2, r3, r4⟩ := w.2 d hd
      obtain ⟨q, q1, q2⟩ := r4 p h1 h2
      have h40 := w.1
      refine Int32.le_trans hp ?_
      rw [q1, r3, le_nI (by omega) (by omega)]
      omega
theorem gen_mono (w : WF n P Q K E) {d a : Nat} (hd : d < n) (ha : bt (E d) a = true) : gen sl K a ≤ gen sl K d := by
  have had := w_le w d hd a ha
  have h40 := w.1
  unfold gen
  by_cases h1 : d < sl
  · rw [if_pos h1, if_pos (by omega)]
    exact rank_mono w d hd a ha
  · rw [if_neg h1]
    by_cases h2 : a < sl
    · rw [if_pos h2]
      obtain ⟨r, r1, r2, r3⟩ := w_rank w (show a < n by omega)
      rw [r3]
      exact nI_le (b := 99) (by omega) (by omega)
    · rw [if_neg h2]; exact Int32.le_refl _
theorem gen_pos (w : WF n P Q K E) {c : Nat} (hc : c < n) : 0 ≤ gen sl K c := by
  unfold gen
  obtain ⟨r, r1, r2, r3⟩ := w_rank w hc
  split
  · rw [r3]; exact nI_pos' (by omega)
  · decide
theorem lk_met (w : WF n P Q K E) {a b : Nat} (ha : a < n) (hb : b < n) {al : Int64} (hal : ∀ j, j < n → (bt al j = true ↔ gen sl K a ≤ gen sl K j)) : ∀ (k cnt : Nat) (pile been : Int64) (met : Bool) (ord : Nat → Nat), sub been n → mu pile been n ≤ k → (∀ j, bt pile j = true → bt been j = true) → (∀ j, bt been j = true → bt (E b) j = true) →
    (∀ d, bt been d = true → bt pile d = false → ¬ d = a → ∀ p, p < d → (P d = nI p ∨ Q d = nI p) → bt al p = true → bt been p = true) → (met = false → bt been a = true → bt pile a = true) → (met = true → bt (E b) a = true) → bt been b = true → ((lkI n (gen sl K) (par P Q) al a k pile been cnt met ord).2.1 = true ↔ bt (E b) a = true) := by
  have h40 := w.1
  have fin0 : ∀ (been : Int64) (met : Bool), sub been n → (∀ d, bt been d = true → ¬ d = a → ∀ p, p < d → (P d = nI p ∨ Q d = nI p) → bt al p = true → bt been p = true) → (met = false → bt been a = true → False) → (met = true → bt (E b) a = true) → bt been b = true → (met = true ↔ bt (E b) a = true) := by
    intro been met hsb h4 h5 h6 h7
    refine ⟨h6, fun hE => ?_⟩
    cases met with
    | true => rfl
    | false =>
      exfalso
      have key : ∀ d, d < n → bt been d = true → bt (E d) a = true → False := by
        intro d
        induction d using Nat.strongRecOn with
        | ind d ih =>
          intro hd hbd hda
          by_cases hda' : d = a
          · subst hda'; exact h5 rfl hbd
          · rcases (w_bt w hd a).mp hda with q | ⟨p, q1, q2, q3⟩
            · exact hda' q.symm
            · refine ih p q1 (by omega) (h4 d hbd hda' p q1 q2 ?_) q3
              exact (hal p (by omega)).mpr (gen_mono w (by omega) q3)
      exact key b hb h7 hE
  intro k
  induction k with
  | zero =>
    intro cnt pile been met ord hsb hmu h2 h3 h4 h5 h6 h7
    have hsp : sub pile n := fun c hc q => hsb c hc (h2 c q)
    have hp : pile = 0 := mu_zero (been := been) hsp (by omega)
    subst hp
    exact fin0 been met hsb (fun d hd => h4 d hd (bt_zero d)) (fun q1 q2 => by have := h5 q1 q2; rw [bt_zero] at this; cases this) h6 h7
  | succ k ih =>
    intro cnt pile been met ord hsb hmu h2 h3 h4 h5 h6 h7
    have hsp : sub pile n := fun c hc q => hsb c hc (h2 c q)
    by_cases hp : pile = 0
    · subst hp
      rw [lkI_zero]
      exact fin0 been met hsb (fun d hd => h4 d hd (bt_zero d)) (fun q1 q2 => by have := h5 q1 q2; rw [bt_zero] at this; cases this) h6 h7
    · cases met with
      | true =>
        rw [lkI_met]
        exact ⟨fun _ => h6 rfl, fun _ => rfl⟩
      | false =>
        obtain ⟨c, hc, ht, hbc⟩ := top_of (g := gen sl K) h40 hsp hp
        have ec : (tG (gen sl K) pile n).toNatClampNeg = c := by rw [ht, cl_nI (by omega)]
        have hps : ∀ j, j < 64 → bt ((par P Q c &&& al) &&& (been ^^^ (-1))) j = true → bt been j = false := fun j hj q => by
          rw [bt_and, bt_not _ hj, Bool.and_eq_true] at q
          simpa using q.2
        have hms := mu_step (pile := pile) (been := been) (by omega : n ≤ 64) hc hbc hps
        have hpsj : ∀ j, bt ((par P Q c &&& al) &&& (been ^^^ (-1))) j = true → j < c ∧ (P c = nI j ∨ Q c = nI j) := fun j q => by
          rw [bt_and, bt_and, Bool.and_eq_true, Bool.and_eq_true] at q
          exact (bt_par w hc j).mp q.1.1
        have h64 : ∀ {s : Int64} {j : Nat}, bt s j = true → j < 64 := fun {s j} q => by
          rcases Nat.lt_or_ge j 64 with z | z
          · exact z
          · rw [bt_big s z] at q; cases q
        unfold lkI
        rw [if_neg (by rintro (q | q); exact hp q; cases q), ec]
        refine ih (cnt + 1) _ _ (decide (c = a)) _ (sub_or hsb (sub_andl (sub_andl (sub_par w hc)))) (Nat.le_of_lt_succ (Nat.lt_of_lt_of_le (Nat.lt_of_succ_le hms) hmu)) ?_ ?_ ?_ ?_ ?_ ?_
        · intro j q
          rw [bt_or, Bool.or_eq_true, bt_and, Bool.and_eq_true] at q
          rw [bt_or, Bool.or_eq_true]
          rcases q with q | q
          · exact Or.inl (h2 j q.1)
          · exact Or.inr q
        · intro j q
          rw [bt_or, Bool.or_eq_true] at q
          rcases q with q | q
          · exact h3 j q
          · obtain ⟨q1, q2⟩ := hpsj j q
            exact w_trans w b hb c (h3 c (h2 c hbc)) j (w_par w hc q1 q2 j (w_self w (by omega)))
        · intro d q1 q2 q3 p p1 p2 p3
          rw [bt_or, Bool.or_eq_true] at q1
          rw [bt_or, Bool.or_eq_false_iff] at q2
          rw [bt_or, Bool.or_eq_true]
          have q1 : bt been d = true := by
            rcases q1 with q1 | q1
            · exact q1
            · rw [q2.2] at q1; cases q1
          by_cases hdc : d = c
          · subst hdc
            by_cases hbp : bt been p = true
            · exact Or.inl hbp
            · right
              rw [bt_and, bt_and, Bool.and_eq_true, Bool.and_eq_true, bt_not _ (by omega)]
              exact ⟨⟨(bt_par w hc p).mpr ⟨p1, p2⟩, p3⟩, by simpa using hbp⟩
          · refine Or.inl (h4 d q1 ?_ q3 p p1 p2 p3)
            have := q2.1
            rw [bt_and, bt_not _ (h64 q1), bt_ob (by omega)] at this
            simpa [hdc] using this
        · intro q1 q2
          have hca : ¬ c = a := by simpa using q1
          rw [bt_or, Bool.or_eq_true] at q2 ⊢
          rcases q2 with q2 | q2
          · left
            rw [bt_and, Bool.and_eq_true, bt_not _ (by omega), bt_ob (by omega)]
            exact ⟨h5 rfl q2, by simp [Ne.symm hca]⟩
          · exact Or.inr q2
        · intro q
          have hca : c = a := by simpa using q
          rw [← hca]; exact h3 c (h2 c hbc)
        · rw [bt_or, h7]; rfl
theorem alw_al (w : WF n P Q K E) {a : Nat} (j : Nat) (hj : j < n) : bt (alw n sl K a false) j = true ↔ gen sl K a ≤ gen sl K j := by
  have : alw n sl K a false = frm (gen sl K) (gen sl K a) n := rfl
  rw [this, bt_frm _ _ _ w.1]
  exact ⟨fun q => q.2, fun q => ⟨hj, q⟩⟩
theorem alw_pl (w : WF n P Q K E) {a : Nat} (j : Nat) (hj : j < n) : bt (alw n sl K a true) j = true ↔ (0 : Int32) ≤ gen sl K j := by
  have h40 := w.1
  have : alw n sl K a true = -1 := rfl
  rw [this, bt_m1 (by omega)]
  exact ⟨fun _ => gen_pos w hj, fun _ => rfl⟩
theorem lkA_met (w : WF n P Q K E) {a b : Nat} (ha : a < n) (hb : b < n) : ((lkA n sl P Q K (alw n sl K a false) a b).2.1 = true ↔ bt (E b) a = true) := by
  have h40 := w.1
  unfold lkA
  have hal := fun j hj => alw_al (sl := sl) w (a := a) j hj
  rw [ob_al (by omega)]
  by_cases hbb : bt (alw n sl K a false) b = true
  · rw [if_pos hbb]
    refine lk_met w ha hb hal 40 0 (ob b) (ob b) false _ (sub_ob hb (by omega)) (by rw [mu_init (by omega)]; omega) (fun j q => q) (fun j q => ?_) (fun d q1 q2 => by rw [q1] at q2; cases q2) (fun _ q => q) (fun q => by cases q) (by rw [bt_ob (by omega)]; simp)
    rw [bt_ob (by omega), decide_eq_true_eq] at q
    subst q; exact w_self w hb
  · rw [if_neg hbb, lkI_zero]
    refine ⟨fun q => (by cases q), fun q => ?_⟩
    exact absurd ((hal b hb).mpr (gen_mono w hb q)) hbb
end MET
