/-! The history, and the model's small methods. -/
def rv (E : Nat → Int64) (v : Int32) : Int64 := if v = -1 then 0 else E v.toNatClampNeg
def WF (n : Nat) (P Q K : Nat → Int32) (E : Nat → Int64) : Prop := n ≤ 40 ∧ ∀ c, c < n → okp (P c) c ∧ okp (Q c) c ∧ (P c = Q c → P c = -1) ∧ E c = (ob c ||| rv E (P c)) ||| rv E (Q c) ∧ ∃ r, 1 ≤ r ∧ r ≤ c + 1 ∧ K c = nI r ∧ ∀ p, p < c → (P c = nI p ∨ Q c = nI p) → ∃ q, K p = nI q ∧ q < r
theorem okp_le {v : Int32} {c d : Nat} (h : okp v c) (hd : c ≤ d) : okp v d := by
  rcases h with h | ⟨p, h1, h2⟩
  · exact Or.inl h
  · exact Or.inr ⟨p, by omega, h2⟩
theorem bt_pb {v : Int32} {c : Nat} (hv : okp v c) (hc : c ≤ 40) (j : Nat) : bt (pb v) j = true ↔ v = nI j ∧ j < c := by
  rcases hv with rfl | ⟨p, hp, rfl⟩
  · rw [pb_m1, bt_zero]
    refine ⟨fun h => (by cases h), fun h => ?_⟩
    have : nI j = -1 := h.1.symm
    rw [ne_m1 (by omega)] at this
    exact this.elim
  · rw [pb_nI (by omega), bt_ob (by omega)]
    simp only [decide_eq_true_eq]
    refine ⟨fun h => (by subst h; exact ⟨rfl, hp⟩), fun h => ?_⟩
    have := h.1
    rw [eq_nI (by omega) (by omega)] at this
    exact this.symm
theorem bt_rv {E : Nat → Int64} {v : Int32} {c : Nat} (hv : okp v c) (hc : c ≤ 40) (j : Nat) : bt (rv E v) j = true ↔ ∃ p, p < c ∧ v = nI p ∧ bt (E p) j = true := by
  rcases hv with rfl | ⟨p, hp, rfl⟩
  · rw [rv, if_pos rfl, bt_zero]
    refine ⟨fun h => (by cases h), fun ⟨p, h1, h2, _⟩ => ?_⟩
    have : nI p = -1 := h2.symm
    rw [ne_m1 (by omega)] at this
    exact this.elim
  · rw [rv, if_neg (by rw [ne_m1 (by omega)]; exact id), cl_nI (by omega)]
    refine ⟨fun h => ⟨p, hp, rfl, h⟩, fun ⟨q, h1, h2, h3⟩ => ?_⟩
    rw [eq_nI (by omega) (by omega)] at h2
    rw [h2]; exact h3
section HIS
variable {n : Nat} {P Q K : Nat → Int32} {E : Nat → Int64}
theorem w_bt (w : WF n P Q K E) {c : Nat} (hc : c < n) (j : Nat) : bt (E c) j = true ↔ j = c ∨ ∃ p, p < c ∧ (P c = nI p ∨ Q c = nI p) ∧ bt (E p) j = true := by
  obtain ⟨h1, h2, -, h3, -⟩ := w.2 c hc
  have h40 := w.1
  rw [h3, bt_or, bt_or, bt_ob (by omega), Bool.or_eq_true, Bool.or_eq_true, decide_eq_true_eq, bt_rv h1 (by omega), bt_rv h2 (by omega)]
  constructor
  · rintro ((h | ⟨p, a, b, c⟩) | ⟨p, a, b, c⟩)
    · exact Or.inl h
    · exact Or.inr ⟨p, a, Or.inl b, c⟩
    · exact Or.inr ⟨p, a, Or.inr b, c⟩
  · rintro (h | ⟨p, a, b | b, c⟩)
    · exact Or.inl (Or.inl h)
    · exact Or.inl (Or.inr ⟨p, a, b, c⟩)
    · exact Or.inr ⟨p, a, b, c⟩
theorem w_self (w : WF n P Q K E) {c : Nat} (hc : c < n) : bt (E c) c = true := (w_bt w hc c).mpr (Or.inl rfl)
theorem w_le (w : WF n P Q K E) : ∀ (c : Nat), c < n → ∀ j, bt (E c) j = true → j ≤ c := by
  intro c
  induction c using Nat.strongRecOn with
  | ind c ih =>
    intro hc j hj
    rcases (w_bt w hc j).mp hj with h | ⟨p, h1, h2, h3⟩
    · omega
    · have := ih p h1 (by omega) j h3
      omega
theorem w_par (w : WF n P Q K E) {c p : Nat} (hc : c < n) (hp : p < c) (h : P c = nI p ∨ Q c = nI p) (j : Nat) (hj : bt (E p) j = true) : bt (E c) j = true := (w_bt w hc j).mpr (Or.inr ⟨p, hp, h, hj⟩)
theorem w_trans (w : WF n P Q K E) : ∀ (c : Nat), c < n → ∀ d, bt (E c) d = true → ∀ j, bt (E d) j = true → bt (E c) j = true := by
  intro c
  induction c using Nat.strongRecOn with
  | ind c ih =>
    intro hc d hd j hj
    rcases (w_bt w hc d).mp hd with h | ⟨p, h1, h2, h3⟩
    · subst h; exact hj
    · exact w_par w hc h1 h2 j (ih p h1 (by omega) d h3 j hj)
/-- a set that holds the parents of what it holds, up to c -/
def clo (P Q : Nat → Int32) (S : Int64) (a b : Nat) : Prop := ∀ e, a ≤ e → e < b → bt S e = true → ∀ p, p < e → (P e = nI p ∨ Q e = nI p) → bt S p = true
theorem w_clo (w : WF n P Q K E) {S : Int64} {b : Nat} (hS : clo P Q S 0 b) (hb : b ≤ n) : ∀ e, e < b → bt S e = true → ∀ j, bt (E e) j = true → bt S j = true := by
  intro e
  induction e using Nat.strongRecOn with
  | ind e ih =>
    intro he hS' j hj
    rcases (w_bt w (by omega) j).mp hj with h | ⟨p, h1, h2, h3⟩
    · subst h; exact hS'
    · exact ih p h1 (by omega) (hS e (by omega) he hS' p h1 h2) j h3
def rl (P Q : Nat → Int32) : Nat → Int64 → Int64
  | 0, s => s
  | d + 1, s => rl P Q d (if bt s d = true then (s ||| pb (P d)) ||| pb (Q d) else s)
theorem w_bt_par (w : WF n P Q K E) {d : Nat} (hd : d < n) (s : Int64) (j : Nat) : bt ((s ||| pb (P d)) ||| pb (Q d)) j = true ↔ bt s j = true ∨ (j < d ∧ (P d = nI j ∨ Q d = nI j)) := by
  obtain ⟨h1, h2, -⟩ := w.2 d hd
  have h40 := w.1
  rw [bt_or, bt_or, Bool.or_eq_true, Bool.or_eq_true, bt_pb h1 (by omega), bt_pb h2 (by omega)]
  constructor
  · rintro ((h | ⟨a, b⟩) | ⟨a, b⟩)
    · exact Or.inl h
    · exact Or.inr ⟨b, Or.inl a⟩
    · exact Or.inr ⟨b, Or.inr a⟩
  · rintro (h | ⟨b, a | a⟩)
    · exact Or.inl (Or.inl h)
    · exact Or.inl (Or.inr ⟨a, b⟩)
    · exact Or.inr ⟨a, b⟩
theorem w_rl (w : WF n P Q K E) {c : Nat} (hc : c < n) : ∀ (d : Nat) (S : Int64), d ≤ c + 1 → (∀ j, bt S j = true → bt (E c) j = true) → bt S c = true → clo P Q S d (c + 1) → rl P Q d S = E c
  | 0, S, _, h1, h2, h3 => by
    apply bt_ext
    intro j hj
    show bt S j = bt (E c) j
    have h4 := w_clo w h3 (by omega) c (by omega) h2 j
    cases hb : bt S j with
    | true => exact (h1 j hb).symm
    | false =>
      cases hE : bt (E c) j with
      | true => rw [h4 hE] at hb; cases hb
      | false => rfl
  | d + 1, S, hd, h1, h2, h3 => by
    unfold rl
    by_cases hb : bt S d = true
    · rw [if_pos hb]
      have hdn : d < n := by omega
      refine w_rl w hc d _ (by omega) (fun j hj => ?_) ((w_bt_par w hdn S c).mpr (Or.inl h2)) (fun e he1 he2 he3 p hp hpe => ?_)
      · rcases (w_bt_par w hdn S j).mp hj with q | ⟨q1, q2⟩
        · exact h1 j q
        · exact w_trans w c hc d (h1 d hb) j (w_par w hdn q1 q2 j (w_self w (by omega)))
      · rcases (w_bt_par w hdn S e).mp he3 with q | ⟨q1, q2⟩
        · by_cases hed : e = d
          · subst hed
            exact (w_bt_par w hdn S p).mpr (Or.inr ⟨hp, hpe⟩)
          · exact (w_bt_par w hdn S p).mpr (Or.inl (h3 e (by omega) he2 q p hp hpe))
        · omega
    · rw [if_neg hb]
      refine w_rl w hc d S (by omega) h1 h2 (fun e he1 he2 he3 p hp hpe => ?_)
      by_cases hed : e = d
      · subst hed; exact absurd he3 hb
      · exact h3 e (by omega) he2 he3 p hp hpe
theorem w_rl0 (w : WF n P Q K E) {c : Nat} (hc : c < n) : rl P Q (c + 1) (ob c) = E c := by
  have h40 := w.1
  refine w_rl w hc (c + 1) (ob c) (Nat.le_refl _) (fun j hj => ?_) (by rw [bt_ob (by omega)]; simp) (fun e he1 he2 => by omega)
  rw [bt_ob (by omega), decide_eq_true_eq] at hj
  subst hj; exact w_self w hc
end HIS
