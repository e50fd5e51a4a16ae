/-! Sets as bits; small numbers. -/
def bt (s : Int64) (c : Nat) : Bool := s.toBitVec.getLsbD c
theorem bt_ext {s t : Int64} (h : ∀ c, c < 64 → bt s c = bt t c) : s = t := by
  apply Int64.toBitVec_inj.mp
  exact BitVec.eq_of_getLsbD_eq fun i hi => h i hi
theorem bt_or (s t : Int64) (c : Nat) : bt (s ||| t) c = (bt s c || bt t c) := by simp [bt]
theorem bt_and (s t : Int64) (c : Nat) : bt (s &&& t) c = (bt s c && bt t c) := by simp [bt]
theorem m1_bv : (-1 : Int64).toBitVec = BitVec.allOnes 64 := by decide +kernel
theorem bt_not (s : Int64) {c : Nat} (hc : c < 64) : bt (s ^^^ (-1)) c = !bt s c := by
  show (s ^^^ (-1)).toBitVec.getLsbD c = _
  rw [Int64.toBitVec_xor, m1_bv, BitVec.getLsbD_xor, BitVec.getLsbD_allOnes]
  simp [hc, bt]
theorem bt_zero (c : Nat) : bt 0 c = false := by simp [bt]
theorem bt_m1 {c : Nat} (hc : c < 64) : bt (-1) c = true := by
  show (-1 : Int64).toBitVec.getLsbD c = _
  rw [m1_bv, BitVec.getLsbD_allOnes]; simp [hc]
theorem bt_big (s : Int64) {c : Nat} (hc : 64 ≤ c) : bt s c = false := by
  unfold bt; exact BitVec.getLsbD_of_ge _ _ hc
def ob (c : Nat) : Int64 := Int64.ofBitVec (BitVec.twoPow 64 c)
theorem bt_ob {c : Nat} (hc : c < 64) (j : Nat) : bt (ob c) j = decide (j = c) := by
  show (BitVec.twoPow 64 c).getLsbD j = _
  rw [BitVec.getLsbD_twoPow]
  simp [hc, eq_comm]
theorem sh_ob : ∀ c, c < 64 → (1 : Int64) <<< ((nI c).toInt64 &&& 63) = ob c := by decide +kernel
theorem and_ob (s : Int64) {c : Nat} (hc : c < 64) : (s &&& ob c = 0) ↔ bt s c = false := by
  constructor
  · intro h
    have := congrArg (fun x => bt x c) h
    simpa [bt_and, bt_ob hc, bt_zero] using this
  · intro h
    apply bt_ext
    intro j hj
    rw [bt_and, bt_ob hc, bt_zero]
    by_cases hjc : j = c
    · subst hjc; simp [h]
    · simp [hjc]
theorem sh_amt : ∀ c, c < 64 → (((nI c).toInt64 &&& 63 : Int64).toBitVec.smod 64).toNat = c := by decide +kernel
theorem bt_shr (s : Int64) {c : Nat} (hc : c < 64) : bt (s >>> ((nI c).toInt64 &&& 63)) 0 = bt s c := by
  show (s >>> ((nI c).toInt64 &&& 63)).toBitVec.getLsbD 0 = _
  rw [Int64.toBitVec_shiftRight, BitVec.getLsbD_sshiftRight']
  have h := sh_amt c hc
  rw [show ((nI c).toInt64 &&& 63 : Int64).toBitVec.smod (64 : BitVec 64) = ((nI c).toInt64 &&& 63 : Int64).toBitVec.smod 64 from rfl, h]
  simp [hc, bt]
theorem one_bv : ∀ j, j < 64 → bt 1 j = decide (j = 0) := by decide +kernel
theorem and_one (s : Int64) : (s &&& 1 = 1) ↔ bt s 0 = true := by
  constructor
  · intro h
    have := congrArg (fun x => bt x 0) h
    simpa [bt_and, one_bv 0 (by decide)] using this
  · intro h
    apply bt_ext
    intro j hj
    rw [bt_and, one_bv j hj]
    by_cases hj0 : j = 0
    · subst hj0; simp [h]
    · simp [hj0]
theorem hold_bt (s : Int64) {c : Nat} (hc : c < 64) : (s >>> ((nI c).toInt64 &&& 63) &&& 1 = 1) ↔ bt s c = true := by
  rw [and_one, bt_shr s hc]
/-- how many of the first -/
def ct (s : Int64) : Nat → Nat
  | 0 => 0
  | c + 1 => ct s c + (if bt s c then 1 else 0)
theorem ct_le (s : Int64) : ∀ n, ct s n ≤ n
  | 0 => Nat.le_refl 0
  | n + 1 => by
    have := ct_le s n
    unfold ct
    split <;> omega
theorem ct_congr {s t : Int64} : ∀ {n : Nat}, (∀ c, c < n → bt s c = bt t c) → ct s n = ct t n
  | 0, _ => rfl
  | n + 1, h => by
    unfold ct
    rw [ct_congr (fun c hc => h c (by omega)), h n (by omega)]
theorem ct_add {s : Int64} {k n : Nat} (hk : k < n) (h : bt s k = false) (hn : n ≤ 64) : ct (s ||| ob k) n = ct s n + 1 := by
  induction n with
  | zero => omega
  | succ n ih =>
    unfold ct
    rw [bt_or, bt_ob (by omega)]
    by_cases hkn : n = k
    · subst hkn
      rw [ct_congr (t := s) (fun c hc => by rw [bt_or, bt_ob (by omega)]; simp [show c ≠ n by omega])]
      simp [h]
    · rw [ih (by omega) (by omega)]
      simp [hkn]; omega
theorem ct_del {s : Int64} {k n : Nat} (hk : k < n) (h : bt s k = true) (hn : n ≤ 64) : ct (s &&& (ob k ^^^ (-1))) n + 1 = ct s n := by
  induction n with
  | zero => omega
  | succ n ih =>
    unfold ct
    rw [bt_and, bt_not _ (by omega), bt_ob (by omega)]
    by_cases hkn : n = k
    · subst hkn
      rw [ct_congr (t := s) (fun c hc => by rw [bt_and, bt_not _ (by omega), bt_ob (by omega)]; simp [show c ≠ n by omega])]
      simp [h]
    · have := ih (by omega) (by omega)
      rw [show decide (n = k) = false from by simp [hkn], Bool.not_false, Bool.and_true]
      omega
theorem ct_zero {s : Int64} : ∀ {n : Nat}, ct s n = 0 → ∀ c, c < n → bt s c = false
  | 0, _, c, hc => by omega
  | n + 1, h, c, hc => by
    unfold ct at h
    by_cases hcn : c = n
    · subst hcn
      by_cases hb : bt s c = true
      · rw [if_pos hb] at h; omega
      · simpa using hb
    · exact ct_zero (n := n) (by omega) c (by omega)
/-- a set of which all are below n -/
def sub (s : Int64) (n : Nat) : Prop := ∀ c, c < 64 → bt s c = true → c < n
theorem sub_zero_of_ct {s : Int64} {n : Nat} (hs : sub s n) (h : ct s n = 0) : s = 0 := by
  apply bt_ext
  intro c hc
  rw [bt_zero]
  by_cases hb : bt s c = true
  · exact absurd (ct_zero h c (hs c hc hb)) (by simp [hb])
  · simpa using hb
/-- numbers -/
theorem cl_nI {c : Nat} (h : c < 2147483648) : (nI c).toNatClampNeg = c := nI_clamp (by omega)
theorem le_nI {a b : Nat} (ha : a < 2147483648) (hb : b < 2147483648) : (nI a ≤ nI b) = (a ≤ b) := propext (nI_leI (by omega) (by omega))
theorem lt_nI {a b : Nat} (ha : a < 2147483648) (hb : b < 2147483648) : (nI a < nI b) = (a < b) := propext (nI_ltI (by omega) (by omega))
theorem eq_nI {a b : Nat} (ha : a < 2147483648) (hb : b < 2147483648) : (nI a = nI b) = (a = b) := propext (nI_eq (by omega) (by omega))
theorem ne_m1 {a : Nat} (ha : a < 2147483648) : (nI a = -1) = False := by
  refine propext ⟨fun h => ?_, False.elim⟩
  have := congrArg Int32.toInt h
  rw [nI_toInt (by omega)] at this
  have h2 : (-1 : Int32).toInt = -1 := by decide
  omega
theorem ge0_nI {a : Nat} (ha : a < 2147483648) : (0 ≤ nI a) = True := by
  refine propext ⟨fun _ => trivial, fun _ => nI_pos' (by omega)⟩
theorem lt0_nI {a : Nat} (ha : a < 2147483648) : (nI a < 0) = False := by
  refine propext ⟨fun h => absurd h (nI_pos (by omega)), False.elim⟩
theorem lit_nI (k : Nat) : (OfNat.ofNat k : Int32) = nI k := rfl
theorem gd_nI {a N : Nat} (ha : a < N) (hN : N < 2147483648) : (0 ≤ nI a ∧ (nI a).toNatClampNeg < N) = True := by
  rw [ge0_nI (by omega), cl_nI (by omega)]
  simp [ha]
theorem m1_lt0 : ((-1 : Int32) < 0) = True := by decide
theorem om1 : Int32.ofInt (-1) = -1 := by decide
theorem nI_m1 (a : Nat) : nI (a + 1) + (-1) = nI a := pk_m1 a
theorem int_cases (x : Int32) : x < 0 ∨ ∃ j : Nat, j < 2 ^ 31 ∧ x = nI j := by
  by_cases h : x < 0
  · exact Or.inl h
  · obtain ⟨j, h1, h2⟩ := nI_of h
    exact Or.inr ⟨j, h1, h2⟩
theorem lcmp0 (x y : Int64) : (lg_cmp x y = 0) = (x = y) := by
  unfold lg_cmp
  by_cases h1 : x > y
  · rw [if_pos h1]
    refine propext ⟨fun h => absurd h (by decide), fun h => ?_⟩
    subst h; exact absurd h1 (Int64.lt_irrefl)
  · rw [if_neg h1]
    by_cases h2 : x = y
    · simp [h2]
    · rw [if_neg h2]
      simp [h2]
theorem lcmp_lt (x y : Int64) : (lg_cmp x y < 0) = (x < y) := by
  unfold lg_cmp
  by_cases h1 : x > y
  · rw [if_pos h1]
    refine propext ⟨fun h => absurd h (by decide), fun h => ?_⟩
    exact absurd (Int64.lt_trans h h1) Int64.lt_irrefl
  · rw [if_neg h1]
    by_cases h2 : x = y
    · subst h2
      rw [if_pos rfl]
      refine propext ⟨fun h => absurd h (by decide), fun h => absurd h Int64.lt_irrefl⟩
    · rw [if_neg h2]
      refine propext ⟨fun _ => ?_, fun _ => by decide⟩
      rcases Int64.lt_or_eq_of_le (Int64.not_lt.mp h1) with h | h
      · exact h
      · exact absurd h h2
theorem lcmp_gt (x y : Int64) : (0 < lg_cmp x y) = (y < x) := by
  unfold lg_cmp
  by_cases h1 : x > y
  · rw [if_pos h1]
    exact propext ⟨fun _ => h1, fun _ => by decide⟩
  · rw [if_neg h1]
    by_cases h2 : x = y
    · rw [if_pos h2]
      exact propext ⟨fun h => absurd h (by decide), fun h => absurd h h1⟩
    · rw [if_neg h2]
      exact propext ⟨fun h => absurd h (by decide), fun h => absurd h h1⟩
theorem b01 (c : Prop) [Decidable c] : ((if c then (1 : Int32) else 0) = 0) = ¬ c := by
  by_cases h : c <;> simp [h]
theorem b01' (c : Prop) [Decidable c] : ((if c then (0 : Int32) else 1) = 0) = c := by
  by_cases h : c <;> simp [h]
theorem i01 (c : Prop) [Decidable c] : ((if c then (1 : Int32) else 0) = 0 ∨ (if c then (1 : Int32) else 0) = 1) = True := by
  by_cases h : c <;> simp [h]
theorem yle {a b : Nat} (h : a ≤ b) : (a ≤ b) = True := propext ⟨fun _ => trivial, fun _ => h⟩
theorem nle {a b : Nat} (h : b < a) : (a ≤ b) = False := propext ⟨fun q => by omega, False.elim⟩
theorem ylt {a b : Nat} (h : a < b) : (a < b) = True := propext ⟨fun _ => trivial, fun _ => h⟩
theorem nlt {a b : Nat} (h : b ≤ a) : (a < b) = False := propext ⟨fun q => by omega, False.elim⟩
theorem neqN {a b : Nat} (h : a < b ∨ b < a) : (a = b) = False := propext ⟨fun q => by omega, False.elim⟩
theorem le40 {c : Nat} (hc : c < 2147483648) : ((40 : Int32) ≤ nI c) = (40 ≤ c) := le_nI (a := 40) (by omega) hc
theorem lt40 {c : Nat} (hc : c < 2147483648) : (nI c < (40 : Int32)) = (c < 40) := lt_nI (b := 40) hc (by omega)
theorem nI_0' : nI 0 = 0 := rfl
theorem bit_and {s : Int64} {c : Nat} (hc : c < 64) : (s &&& ob c = 0) = (bt s c = false) := propext (and_ob s hc)
theorem ob_and {s : Int64} {c : Nat} (hc : c < 64) : (ob c &&& s = 0) = (bt s c = false) := by rw [Int64.and_comm, bit_and hc]
theorem hold_eq {s : Int64} {c : Nat} (hc : c < 64) : (s >>> ((nI c).toInt64 &&& 63) &&& 1 = 1) = (bt s c = true) := propext (hold_bt s hc)
theorem sh_ob' {c : Nat} (hc : c < 64) : (1 : Int64) <<< ((nI c).toInt64 &&& 63) = ob c := sh_ob c hc
theorem bfalse (b : Bool) : (b = false) = ¬ (b = true) := by cases b <;> simp
theorem e10 : ((1 : Int32) = 0) = False := by decide
theorem e01 : ((0 : Int32) = 1) = False := by decide
theorem em10 : ((-1 : Int32) = 0) = False := by decide
