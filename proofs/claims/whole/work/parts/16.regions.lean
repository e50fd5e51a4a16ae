/-! Which cells a question may change. -/
def rg (k j : Nat) : Nat :=
  if k = 8 ∨ k = 9 then 1 else if k = 10 then 2 else if k = 12 ∨ k = 13 then 3 else if k = 14 ∧ 1 ≤ j then 4 else if (k = 15 ∧ 6 ≤ j) ∨ k = 16 ∨ k = 17 then 5 else if k = 37 then 6 else if k = 27 ∧ j = 19 then 7 else if k = 38 ∨ k = 39 then 8 else if (k = 27 ∧ (j = 22 ∨ j = 23 ∨ 27 ≤ j)) ∨ k = 40 ∨ k = 41 ∨ k = 42 then 9 else if k = 31 then 10 else 0
def Sx (R : List Nat) (h h' : mH) : Prop := ∀ k j, rg k j ∉ R → gI h' k j = gI h k j ∧ gJ h' k j = gJ h k j
theorem sx_refl (R : List Nat) (h : mH) : Sx R h h := fun _ _ _ => ⟨rfl, rfl⟩
theorem sx_trans {R : List Nat} {h h1 h2 : mH} (a : Sx R h h1) (b : Sx R h1 h2) : Sx R h h2 := fun k j hk => ⟨((b k j hk).1).trans (a k j hk).1, ((b k j hk).2).trans (a k j hk).2⟩
theorem sx_mono {R R' : List Nat} {h h1 : mH} (a : Sx R h h1) (hR : ∀ x ∈ R, x ∈ R') : Sx R' h h1 := fun k j hk => a k j (fun q => hk (hR _ q))
theorem sx_sI {R : List Nat} {h h1 : mH} {k j : Nat} {x : Int32} (a : Sx R h h1) (hk : rg k j ∈ R) : Sx R h (sI h1 k j x) := by
  intro k' j' hk'
  have hne : ¬ (k' = k ∧ j' = j) := fun q => hk' (by rw [q.1, q.2]; exact hk)
  exact ⟨by rw [gI_else hne]; exact (a k' j' hk').1, by rw [gJ_sI]; exact (a k' j' hk').2⟩
theorem sx_sJ {R : List Nat} {h h1 : mH} {k j : Nat} {x : Int64} (a : Sx R h h1) (hk : rg k j ∈ R) : Sx R h (sJ h1 k j x) := by
  intro k' j' hk'
  have hne : ¬ (k' = k ∧ j' = j) := fun q => hk' (by rw [q.1, q.2]; exact hk)
  exact ⟨by rw [gI_sJ]; exact (a k' j' hk').1, by rw [gJ_else hne]; exact (a k' j' hk').2⟩
theorem sx_fI {R : List Nat} {h h' : mH} (a : Sx R h h') {k : Nat} (hk : ∀ j, rg k j ∉ R) : gI h' k = gI h k := funext fun j => (a k j (hk j)).1
theorem sx_fJ {R : List Nat} {h h' : mH} (a : Sx R h h') {k : Nat} (hk : ∀ j, rg k j ∉ R) : gJ h' k = gJ h k := funext fun j => (a k j (hk j)).2
theorem rg2 (j : Nat) : rg 2 j = 0 := by simp [rg]
theorem rg3 (j : Nat) : rg 3 j = 0 := by simp [rg]
theorem rg4 (j : Nat) : rg 4 j = 0 := by simp [rg]
theorem rg5 (j : Nat) : rg 5 j = 0 := by simp [rg]
theorem rg6 (j : Nat) : rg 6 j = 0 := by simp [rg]
theorem rg7 (j : Nat) : rg 7 j = 0 := by simp [rg]
theorem rg8 (j : Nat) : rg 8 j = 1 := by simp [rg]
theorem rg9 (j : Nat) : rg 9 j = 1 := by simp [rg]
theorem rg10 (j : Nat) : rg 10 j = 2 := by simp [rg]
theorem rg12 (j : Nat) : rg 12 j = 3 := by simp [rg]
theorem rg13 (j : Nat) : rg 13 j = 3 := by simp [rg]
theorem rg16 (j : Nat) : rg 16 j = 5 := by simp [rg]
theorem rg17 (j : Nat) : rg 17 j = 5 := by simp [rg]
theorem rg28 (j : Nat) : rg 28 j = 0 := by simp [rg]
theorem rg29 (j : Nat) : rg 29 j = 0 := by simp [rg]
theorem rg30 (j : Nat) : rg 30 j = 0 := by simp [rg]
theorem rg31 (j : Nat) : rg 31 j = 10 := by simp [rg]
theorem rg32 (j : Nat) : rg 32 j = 0 := by simp [rg]
theorem rg33 (j : Nat) : rg 33 j = 0 := by simp [rg]
theorem rg34 (j : Nat) : rg 34 j = 0 := by simp [rg]
theorem rg35 (j : Nat) : rg 35 j = 0 := by simp [rg]
theorem rg36 (j : Nat) : rg 36 j = 0 := by simp [rg]
theorem rg37 (j : Nat) : rg 37 j = 6 := by simp [rg]
theorem rg38 (j : Nat) : rg 38 j = 8 := by simp [rg]
theorem rg39 (j : Nat) : rg 39 j = 8 := by simp [rg]
theorem rg40 (j : Nat) : rg 40 j = 9 := by simp [rg]
theorem rg41 (j : Nat) : rg 41 j = 9 := by simp [rg]
theorem rg42 (j : Nat) : rg 42 j = 9 := by simp [rg]
/-- the history as the class has it, and as the model has it -/
def HC (h : mH) (n sl : Nat) (P Q K : Nat → Int32) (E : Nat → Int64) : Prop := gI h 1 6 = nI n ∧ gI h 1 7 = nI sl ∧ sl ≤ n ∧ gI h 2 = P ∧ gI h 3 = Q ∧ gI h 5 = K ∧ gJ h 6 = E ∧ WF n P Q K E
def HM (h : mH) (n sl : Nat) (P Q K : Nat → Int32) (E : Nat → Int64) : Prop := gI h 27 5 = nI n ∧ gI h 27 10 = nI sl ∧ sl ≤ n ∧ gI h 32 = P ∧ gI h 33 = Q ∧ gI h 34 = K ∧ WF n P Q K E
section HH
variable {h h' : mH} {n sl : Nat} {P Q K : Nat → Int32} {E : Nat → Int64} {R : List Nat}
theorem hc_sx (w : HC h n sl P Q K E) (a : Sx R h h') (hR : 0 ∉ R) : HC h' n sl P Q K E := by
  obtain ⟨w1, w2, w3, w4, w5, w6, w7, w8⟩ := w
  refine ⟨?_, ?_, w3, ?_, ?_, ?_, ?_, w8⟩
  · rw [(a 1 6 hR).1]; exact w1
  · rw [(a 1 7 hR).1]; exact w2
  · rw [sx_fI a (fun j => by rw [rg2]; exact hR)]; exact w4
  · rw [sx_fI a (fun j => by rw [rg3]; exact hR)]; exact w5
  · rw [sx_fI a (fun j => by rw [rg5]; exact hR)]; exact w6
  · rw [sx_fJ a (fun j => by rw [rg6]; exact hR)]; exact w7
theorem hm_sx (w : HM h n sl P Q K E) (a : Sx R h h') (hR : 0 ∉ R) : HM h' n sl P Q K E := by
  obtain ⟨w1, w2, w3, w4, w5, w6, w8⟩ := w
  refine ⟨?_, ?_, w3, ?_, ?_, ?_, w8⟩
  · rw [(a 27 5 hR).1]; exact w1
  · rw [(a 27 10 hR).1]; exact w2
  · rw [sx_fI a (fun j => by rw [rg32]; exact hR)]; exact w4
  · rw [sx_fI a (fun j => by rw [rg33]; exact hR)]; exact w5
  · rw [sx_fI a (fun j => by rw [rg34]; exact hR)]; exact w6
def par (P Q : Nat → Int32) (c : Nat) : Int64 := pb (P c) ||| pb (Q c)
theorem c_bit {c : Nat} (w : HC h n sl P Q K E) (hc : c < n) : Rt 41 [.int (nI c)] h = some (some (.long (ob c)), h) := r_bit (by have := w.2.2.2.2.2.2.2.1; omega) h
theorem c_topG (w : HC h n sl P Q K E) (s : Int64) : Rt 144 [.ref 1, .long s] h = some (some (.int (tG (gen sl K) s n)), h) := by
  obtain ⟨w1, w2, w3, w4, w5, w6, w7, w8⟩ := w
  rw [r_topG w1 w2 w8.1 w3, w6]
theorem c_gen (w : HC h n sl P Q K E) {c : Nat} (hc : c < n) : Rt 138 [.ref 1, .int (nI c)] h = some (some (.int (gen sl K c)), h) := by
  obtain ⟨w1, w2, w3, w4, w5, w6, w7, w8⟩ := w
  rw [r_generationOf w1 w2 w8.1 w3 hc, w6]
theorem c_frm (w : HC h n sl P Q K E) (a : Int32) : Rt 143 [.ref 1, .int a] h = some (some (.long (frm (gen sl K) a n)), h) := by
  obtain ⟨w1, w2, w3, w4, w5, w6, w7, w8⟩ := w
  rw [r_frm w1 w2 w8.1 w3, w6]
theorem c_par (w : HC h n sl P Q K E) {c : Nat} (hc : c < n) : Rt 135 [.ref 1, .int (nI c)] h = some (some (.long (par P Q c)), h) := by
  obtain ⟨w1, w2, w3, w4, w5, w6, w7, w8⟩ := w
  have := w8.2 c hc
  rw [r_parentsOf w1 w8.1 hc (by rw [w4]; exact this.1) (by rw [w5]; exact this.2.1), w4, w5]; rfl
theorem c_reach (w : HC h n sl P Q K E) {c : Nat} (hc : c < n) : Rt 139 [.ref 1, .int (nI c)] h = some (some (.long (E c)), h) := by
  obtain ⟨w1, w2, w3, w4, w5, w6, w7, w8⟩ := w
  rw [r_reachOf w1 w8.1 hc, w7]
theorem c_holds (w : HC h n sl P Q K E) {c : Nat} (hc : c < 2147483648) : Rt 125 [.ref 1, .int (nI c)] h = some (some (.int (if c < n then 1 else 0)), h) := r_holds w.1 w.2.2.2.2.2.2.2.1 hc
theorem m_gen (w : HM h n sl P Q K E) {c : Nat} (hc : c < n) : Rt 69 [.ref 27, .int (nI c)] h = some (some (.int (gen sl K c)), h) := by
  obtain ⟨w1, w2, w3, w4, w5, w6, w8⟩ := w
  rw [r_generation w2 w8.1 w3 hc, w6]
theorem m_next (w : HM h n sl P Q K E) (s : Int64) : Rt 76 [.ref 27, .long s] h = some (some (.int (tG (gen sl K) s n)), h) := by
  obtain ⟨w1, w2, w3, w4, w5, w6, w8⟩ := w
  rw [r_next w1 w2 w8.1 w3, w6]
theorem m_parent0 (w : HM h n sl P Q K E) {c : Nat} (hc : c < n) : Rt 73 [.ref 27, .int (nI c), .int 0] h = some (some (.int (P c)), h) := by
  rw [r_parent0 (by have := w.2.2.2.2.2.2.1; omega), w.2.2.2.1]
theorem m_parent1 (w : HM h n sl P Q K E) {c : Nat} (hc : c < n) : Rt 73 [.ref 27, .int (nI c), .int 1] h = some (some (.int (Q c)), h) := by
  rw [r_parent1 (by have := w.2.2.2.2.2.2.1; omega), w.2.2.2.2.1]
theorem m_reach (w : HM h n sl P Q K E) {c : Nat} (hc : c < n) : Rt 74 [.ref 27, .int (nI c)] h = some (some (.long (E c)), h) := by
  obtain ⟨w1, w2, w3, w4, w5, w6, w8⟩ := w
  exact r_mreachOf (K := K) (by rw [w4, w5]; exact w8) hc
theorem m_isC (w : HM h n sl P Q K E) {c : Nat} (hc : c < 2147483648) : Rt 58 [.ref 27, .int (nI c)] h = some (some (.int (if c < n then 1 else 0)), h) := r_isCommit_c w.1 w.2.2.2.2.2.2.1 hc
end HH
/-- counting -/
theorem ct_or (s t : Int64) : ∀ n, ct (s ||| t) n + ct (s &&& t) n = ct s n + ct t n
  | 0 => rfl
  | n + 1 => by
    have := ct_or s t n
    unfold ct
    rw [bt_or, bt_and]
    cases bt s n <;> cases bt t n <;> simp only [Bool.not_true, Bool.not_false, Bool.and_true, Bool.and_false, Bool.true_and, Bool.false_and, Bool.or_true, Bool.or_false, Bool.true_or, Bool.false_or, Bool.false_eq_true, if_true, if_false] <;> omega
theorem ct_diff (s t : Int64) : ∀ {n : Nat}, n ≤ 64 → ct (s &&& (t ^^^ (-1))) n + ct (s &&& t) n = ct s n
  | 0, _ => rfl
  | n + 1, hn => by
    have := ct_diff s t (n := n) (by omega)
    unfold ct
    rw [bt_and, bt_and, bt_not _ (by omega)]
    cases bt s n <;> cases bt t n <;> simp only [Bool.not_true, Bool.not_false, Bool.and_true, Bool.and_false, Bool.true_and, Bool.false_and, Bool.or_true, Bool.or_false, Bool.true_or, Bool.false_or, Bool.false_eq_true, if_true, if_false] <;> omega
/-- what is left: on the pile, or never there -/
def mu (pile been : Int64) (n : Nat) : Nat := ct pile n + ct (been ^^^ (-1)) n
theorem mu_init {s : Int64} {n : Nat} (hn : n ≤ 64) : mu s s n = n := by
  unfold mu
  induction n with
  | zero => rfl
  | succ n ih =>
    have := ih (by omega)
    unfold ct
    rw [bt_not _ (by omega)]
    cases bt s n <;> simp only [Bool.not_true, Bool.not_false, Bool.and_true, Bool.and_false, Bool.true_and, Bool.false_and, Bool.or_true, Bool.or_false, Bool.true_or, Bool.false_or, Bool.false_eq_true, if_true, if_false] <;> omega
theorem mu_step {pile been ps : Int64} {n c : Nat} (hn : n ≤ 64) (hc : c < n) (hb : bt pile c = true) (hps : ∀ j, j < 64 → bt ps j = true → bt been j = false) : mu ((pile &&& (ob c ^^^ (-1))) ||| ps) (been ||| ps) n + 1 ≤ mu pile been n := by
  unfold mu
  have h1 := ct_or (pile &&& (ob c ^^^ (-1))) ps n
  have h2 := ct_del hc hb hn
  have e : (been ||| ps) ^^^ (-1) = (been ^^^ (-1)) &&& (ps ^^^ (-1)) := by
    apply bt_ext; intro j hj
    rw [bt_not _ hj, bt_or, bt_and, bt_not _ hj, bt_not _ hj]
    cases bt been j <;> cases bt ps j <;> rfl
  have h3 := ct_diff (been ^^^ (-1)) ps hn
  have h4 : ct ((been ^^^ (-1)) &&& ps) n = ct ps n := ct_congr (fun j hj => by
    rw [bt_and, bt_not _ (by omega)]
    cases hp : bt ps j with
    | false => simp
    | true => rw [hps j (by omega) hp]; rfl)
  rw [e]
  omega
theorem mu_zero {pile been : Int64} {n : Nat} (hs : sub pile n) (h : mu pile been n = 0) : pile = 0 := sub_zero_of_ct hs (by unfold mu at h; omega)
theorem sub_ob {b n : Nat} (hb : b < n) (hn : n ≤ 64) : sub (ob b) n := fun c hc h => by
  rw [bt_ob (by omega), decide_eq_true_eq] at h
  omega
theorem sub_or {s t : Int64} {n : Nat} (a : sub s n) (b : sub t n) : sub (s ||| t) n := fun c hc h => by
  rw [bt_or, Bool.or_eq_true] at h
  rcases h with h | h
  · exact a c hc h
  · exact b c hc h
theorem sub_andl {s t : Int64} {n : Nat} (a : sub s n) : sub (s &&& t) n := fun c hc h => by
  rw [bt_and, Bool.and_eq_true] at h
  exact a c hc h.1
theorem sub_zero (n : Nat) : sub 0 n := fun c hc h => by rw [bt_zero] at h; cases h
theorem bt_par {n : Nat} {P Q K : Nat → Int32} {E : Nat → Int64} (w : WF n P Q K E) {c : Nat} (hc : c < n) (j : Nat) : bt (par P Q c) j = true ↔ j < c ∧ (P c = nI j ∨ Q c = nI j) := by
  obtain ⟨h1, h2, -⟩ := w.2 c hc
  have h40 := w.1
  unfold par
  rw [bt_or, Bool.or_eq_true, bt_pb h1 (by omega), bt_pb h2 (by omega)]
  constructor
  · rintro (⟨a, b⟩ | ⟨a, b⟩)
    · exact ⟨b, Or.inl a⟩
    · exact ⟨b, Or.inr a⟩
  · rintro ⟨b, a | a⟩
    · exact Or.inl ⟨a, b⟩
    · exact Or.inr ⟨a, b⟩
theorem sub_par {n : Nat} {P Q K : Nat → Int32} {E : Nat → Int64} (w : WF n P Q K E) {c : Nat} (hc : c < n) : sub (par P Q c) n := fun j hj h => by
  have := (bt_par w hc j).mp h
  omega
theorem top_of {g : Nat → Int32} {s : Int64} {n : Nat} (h40 : n ≤ 40) (hs : sub s n) (h0 : ¬ s = 0) : ∃ c, c < n ∧ tG g s n = nI c ∧ bt s c = true := by
  rcases Classical.em (∃ d, d < 64 ∧ bt s d = true) with ⟨d, h1, h2⟩ | hno
  · exact tG_some g s h40 (hs d h1 h2) h2
  · exfalso
    apply h0
    apply bt_ext
    intro c hc
    rw [bt_zero]
    cases hb : bt s c with
    | false => rfl
    | true => exact absurd ⟨c, hc, hb⟩ hno
