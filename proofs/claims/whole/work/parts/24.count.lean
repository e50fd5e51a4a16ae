/-! Long.bitCount counts. -/
def us (x : Int64) (k : Int32) : Int64 := (x.toUInt64 >>> (k.toInt64.toUInt64 &&& Int64.toUInt64 63)).toInt64
def pp1 (x : Int64) : Int64 := x - (us x 1 &&& 6148914691236517205)
def pp2 (x : Int64) : Int64 := (x &&& 3689348814741910323) + (us x 2 &&& 3689348814741910323)
def pp3 (x : Int64) : Int64 := (x + us x 4) &&& 1085102592571150095
def pp4 (x : Int64) : Int64 := x + us x 8
def pp5 (x : Int64) : Int64 := x + us x 16
def pp6 (x : Int64) : Int64 := x + us x 32
theorem r_bc0 (x : Int64) (h : mH) : Rt 167 [.long x] h = some (some (.int ((pp6 (pp5 (pp4 (pp3 (pp2 (pp1 x)))))).toInt32 &&& 127)), h) := by
  show Ev 167 0 [some (.long x), none] [] h = _
  rw [b167_0]
  rfl
def nv (x : Int64) : Nat := x.toBitVec.toNat
theorem nv_lt (x : Int64) : nv x < 18446744073709551616 := x.toBitVec.isLt
theorem nv_add (x y : Int64) : nv (x + y) = (nv x + nv y) % 18446744073709551616 := by
  show (x + y).toBitVec.toNat = _
  rw [Int64.toBitVec_add, BitVec.toNat_add]; rfl
theorem nv_sub (x y : Int64) (h : nv y ≤ nv x) : nv (x - y) = nv x - nv y := by
  show (x - y).toBitVec.toNat = _
  rw [Int64.toBitVec_sub, BitVec.toNat_sub]
  have h1 : x.toBitVec.toNat = nv x := rfl
  have h2 : y.toBitVec.toNat = nv y := rfl
  have := nv_lt x
  have := nv_lt y
  rw [h1, h2]
  omega
theorem nv_and (x y : Int64) : nv (x &&& y) = nv x &&& nv y := by
  show (x &&& y).toBitVec.toNat = _
  rw [Int64.toBitVec_and, BitVec.toNat_and]; rfl
theorem nv_us (x : Int64) (k : Int32) (j : Nat) (hk : (k.toInt64.toUInt64 &&& Int64.toUInt64 63).toNat % 64 = j) : nv (us x k) = nv x >>> j := by
  show (x.toUInt64 >>> (k.toInt64.toUInt64 &&& Int64.toUInt64 63)).toNat = _
  rw [UInt64.toNat_shiftRight, hk]
  rfl
def rep (m : Nat) : Nat → Nat
  | 0 => 0
  | k + 1 => 256 * rep m k + m
theorem sm {y v M m s : Nat} (hv : v < 256) (hm : m < 2 ^ (8 - s)) (hm2 : m < 256) : ((256 * y + v) >>> s) &&& (256 * M + m) = 256 * ((y >>> s) &&& M) + ((v >>> s) &&& m) := by
  have hb : (v >>> s) &&& m < 2 ^ 8 := Nat.lt_of_le_of_lt Nat.and_le_right hm2
  apply Nat.eq_of_testBit_eq
  intro j
  rw [Nat.testBit_and, Nat.testBit_shiftRight, show 256 * y + v = 2 ^ 8 * y + v from rfl, Nat.testBit_two_pow_mul_add y (i := 8) hv, show 256 * M + m = 2 ^ 8 * M + m from rfl, Nat.testBit_two_pow_mul_add M (i := 8) hm2, show 256 * ((y >>> s) &&& M) + ((v >>> s) &&& m) = 2 ^ 8 * ((y >>> s) &&& M) + ((v >>> s) &&& m) from rfl, Nat.testBit_two_pow_mul_add _ (i := 8) hb]
  by_cases hj : j < 8
  · rw [if_pos hj, if_pos hj, Nat.testBit_and, Nat.testBit_shiftRight]
    by_cases hsj : s + j < 8
    · rw [if_pos hsj]
    · have : m.testBit j = false := Nat.testBit_lt_two_pow (Nat.lt_of_lt_of_le hm (Nat.pow_le_pow_right (by decide) (by omega)))
      rw [this, Bool.and_false, Bool.and_false]
  · rw [if_neg hj, if_neg hj, if_neg (by omega), Nat.testBit_and, Nat.testBit_shiftRight, show s + j - 8 = s + (j - 8) by omega]
def sa (k x : Nat) : Nat := x - ((x >>> 1) &&& rep 85 k)
def sb (k x : Nat) : Nat := (x &&& rep 51 k) + ((x >>> 2) &&& rep 51 k)
def sc (k x : Nat) : Nat := (x + x >>> 4) &&& rep 15 k
def ba (v : Nat) : Nat := v - ((v >>> 1) &&& 85)
def bb (v : Nat) : Nat := (v &&& 51) + ((v >>> 2) &&& 51)
theorem and_sh_le (y M s : Nat) : (y >>> s) &&& M ≤ y := Nat.le_trans Nat.and_le_left (by rw [Nat.shiftRight_eq_div_pow]; exact Nat.div_le_self _ _)
theorem sa_succ {k y v : Nat} (hv : v < 256) : sa (k + 1) (256 * y + v) = 256 * sa k y + ba v := by
  unfold sa ba
  rw [rep, sm hv (by decide) (by decide)]
  have h1 := and_sh_le y (rep 85 k) 1
  have h2 := and_sh_le v 85 1
  omega
theorem sb_succ {k y v : Nat} (hv : v < 256) : sb (k + 1) (256 * y + v) = 256 * sb k y + bb v := by
  unfold sb bb
  rw [rep]
  have h1 := sm (y := y) (v := v) (M := rep 51 k) (m := 51) (s := 0) hv (by decide) (by decide)
  have h2 := sm (y := y) (v := v) (M := rep 51 k) (m := 51) (s := 2) hv (by decide) (by decide)
  simp only [Nat.shiftRight_zero] at h1
  rw [h1, h2]
  omega
theorem bab : ∀ v, v < 256 → ba v < 256 ∧ bb (ba v) < 256 ∧ bb (ba v) % 16 ≤ 4 ∧ bb (ba v) / 16 ≤ 4 := by decide +kernel
theorem sc_succ {k y v : Nat} (hv : v < 256) (h1 : v % 16 ≤ 4) (h2 : v / 16 ≤ 4) (h3 : y % 16 ≤ 4) : sc (k + 1) (256 * y + v) = 256 * sc k y + (v % 16 + v / 16) := by
  unfold sc
  have e : 256 * y + v + (256 * y + v) >>> 4 = 256 * (y + y >>> 4) + (v + v / 16 + 16 * (y % 16)) := by
    rw [Nat.shiftRight_eq_div_pow, Nat.shiftRight_eq_div_pow]
    have a1 : (256 * y + v) / 2 ^ 4 = 16 * y + v / 16 := by omega
    have a2 : y / 2 ^ 4 = y / 16 := rfl
    rw [a1, a2]
    omega
  have h4 := sm (y := y + y >>> 4) (v := v + v / 16 + 16 * (y % 16)) (M := rep 15 k) (m := 15) (s := 0) (by omega) (by decide) (by decide)
  simp only [Nat.shiftRight_zero] at h4
  rw [rep, e, h4]
  have h5 : (v + v / 16 + 16 * (y % 16)) &&& 15 = (v + v / 16 + 16 * (y % 16)) % 16 := Nat.and_two_pow_sub_one_eq_mod _ 4
  rw [h5]
  omega
def sd (k x : Nat) : Nat := sc k (sb k (sa k x))
def bd (v : Nat) : Nat := bb (ba v) % 16 + bb (ba v) / 16
theorem sb_low : ∀ (k y : Nat), y < 256 ^ k → sb k (sa k y) % 16 ≤ 4
  | 0, y, h => by
    have : y = 0 := by simpa using h
    subst this; decide
  | k + 1, y, h => by
    have hv : y % 256 < 256 := Nat.mod_lt _ (by decide)
    have e : y = 256 * (y / 256) + y % 256 := by omega
    have hb := bab (y % 256) hv
    rw [e, sa_succ hv, sb_succ hb.1]
    omega
theorem sd_succ {k y v : Nat} (hv : v < 256) (hy : y < 256 ^ k) : sd (k + 1) (256 * y + v) = 256 * sd k y + bd v := by
  have hb := bab v hv
  unfold sd bd
  rw [sa_succ hv, sb_succ hb.1, sc_succ hb.2.1 hb.2.2.1 hb.2.2.2 (sb_low k y hy)]
def cN (m : Nat) : Nat → Nat
  | 0 => 0
  | c + 1 => cN m c + (if m.testBit c = true then 1 else 0)
theorem cN_split (m : Nat) : ∀ n, cN m (8 + n) = cN m 8 + cN (m / 256) n
  | 0 => rfl
  | n + 1 => by
    have := cN_split m n
    rw [show 8 + (n + 1) = (8 + n) + 1 by omega]
    show cN m (8 + n) + (if m.testBit (8 + n) = true then 1 else 0) = cN m 8 + (cN (m / 256) n + (if (m / 256).testBit n = true then 1 else 0))
    rw [this, show (m / 256).testBit n = m.testBit (8 + n) by
      rw [show m / 256 = m >>> 8 by rw [Nat.shiftRight_eq_div_pow], Nat.testBit_shiftRight]]
    omega
theorem cN_low (m : Nat) : ∀ n, n ≤ 8 → cN m n = cN (m % 256) n
  | 0, _ => rfl
  | n + 1, hn => by
    rw [cN, cN, cN_low m n (by omega)]
    have : (m % 256).testBit n = m.testBit n := by
      rw [show m % 256 = m % 2 ^ 8 from rfl, Nat.testBit_mod_two_pow]
      simp [show n < 8 by omega]
    rw [this]
theorem bd_c : ∀ v, v < 256 → bd v = cN v 8 ∧ bd v ≤ 8 := by decide +kernel
theorem sd_step {k x : Nat} (hx : x < 256 ^ (k + 1)) : sd (k + 1) x = 256 * sd k (x / 256) + bd (x % 256) ∧ x / 256 < 256 ^ k := by
  have h1 : x / 256 < 256 ^ k := by
    rw [Nat.pow_succ] at hx
    exact Nat.div_lt_of_lt_mul (by omega)
  refine ⟨?_, h1⟩
  have := sd_succ (k := k) (y := x / 256) (v := x % 256) (Nat.mod_lt _ (by decide)) h1
  rw [← this]
  congr 1
  omega
theorem ct_cN (x : Int64) : ∀ n, ct x n = cN (nv x) n
  | 0 => rfl
  | n + 1 => by
    unfold ct cN
    rw [ct_cN x n]
    rfl
theorem dig3 {p0 p1 p2 p3 p4 p5 p6 p7 z3 : Nat} (b0 : p0 ≤ 8) (e3 : z3 = p0 + 256 * p1 + 65536 * p2 + 16777216 * p3 + 4294967296 * p4 + 1099511627776 * p5 + 281474976710656 * p6 + 72057594037927936 * p7) : z3 / 256 = p1 + 256 * p2 + 65536 * p3 + 16777216 * p4 + 4294967296 * p5 + 1099511627776 * p6 + 281474976710656 * p7 := by omega
theorem dig4 {p0 p1 p2 p3 p4 p5 p6 p7 z4 : Nat} (b0 : p0 ≤ 8) (b1 : p1 ≤ 8) (b2 : p2 ≤ 8) (b3 : p3 ≤ 8) (b4 : p4 ≤ 8) (b5 : p5 ≤ 8) (b6 : p6 ≤ 8) (b7 : p7 ≤ 8) (e4 : z4 = (p0 + p1) + 256 * (p1 + p2) + 65536 * (p2 + p3) + 16777216 * (p3 + p4) + 4294967296 * (p4 + p5) + 1099511627776 * (p5 + p6) + 281474976710656 * (p6 + p7) + 72057594037927936 * p7) : z4 / 65536 = (p2 + p3) + 256 * (p3 + p4) + 65536 * (p4 + p5) + 16777216 * (p5 + p6) + 4294967296 * (p6 + p7) + 1099511627776 * p7 := by omega
theorem dig5 {p0 p1 p2 p3 p4 p5 p6 p7 z5 : Nat} (b0 : p0 ≤ 8) (b1 : p1 ≤ 8) (b2 : p2 ≤ 8) (b3 : p3 ≤ 8) (b4 : p4 ≤ 8) (b5 : p5 ≤ 8) (b6 : p6 ≤ 8) (b7 : p7 ≤ 8) (e5 : z5 = (p0 + p1 + p2 + p3) + 256 * (p1 + p2 + p3 + p4) + 65536 * (p2 + p3 + p4 + p5) + 16777216 * (p3 + p4 + p5 + p6) + 4294967296 * (p4 + p5 + p6 + p7) + 1099511627776 * (p5 + p6 + p7) + 281474976710656 * (p6 + p7) + 72057594037927936 * p7) : z5 / 4294967296 = (p4 + p5 + p6 + p7) + 256 * (p5 + p6 + p7) + 65536 * (p6 + p7) + 16777216 * p7 := by omega
theorem dig {p0 p1 p2 p3 p4 p5 p6 p7 z3 z4 z5 z6 : Nat} (b0 : p0 ≤ 8) (b1 : p1 ≤ 8) (b2 : p2 ≤ 8) (b3 : p3 ≤ 8) (b4 : p4 ≤ 8) (b5 : p5 ≤ 8) (b6 : p6 ≤ 8) (b7 : p7 ≤ 8) (e3 : z3 = p0 + 256 * p1 + 65536 * p2 + 16777216 * p3 + 4294967296 * p4 + 1099511627776 * p5 + 281474976710656 * p6 + 72057594037927936 * p7) (e4 : z4 = z3 + z3 / 256) (e5 : z5 = z4 + z4 / 65536) (e6 : z6 = z5 + z5 / 4294967296) : z6 % 128 = p0 + (p1 + (p2 + (p3 + (p4 + (p5 + (p6 + p7)))))) := by
  rw [dig3 b0 e3, e3] at e4
  have f4 : z4 = (p0 + p1) + 256 * (p1 + p2) + 65536 * (p2 + p3) + 16777216 * (p3 + p4) + 4294967296 * (p4 + p5) + 1099511627776 * (p5 + p6) + 281474976710656 * (p6 + p7) + 72057594037927936 * p7 := by rw [e4]; omega
  rw [dig4 b0 b1 b2 b3 b4 b5 b6 b7 f4, f4] at e5
  have f5 : z5 = (p0 + p1 + p2 + p3) + 256 * (p1 + p2 + p3 + p4) + 65536 * (p2 + p3 + p4 + p5) + 16777216 * (p3 + p4 + p5 + p6) + 4294967296 * (p4 + p5 + p6 + p7) + 1099511627776 * (p5 + p6 + p7) + 281474976710656 * (p6 + p7) + 72057594037927936 * p7 := by rw [e5]; omega
  rw [dig5 b0 b1 b2 b3 b4 b5 b6 b7 f5, f5] at e6
  clear e3 e4 e5 f4 f5
  rw [e6]
  omega
theorem r_bitCount (x : Int64) (h : mH) : Rt 167 [.long x] h = some (some (.int (nI (ct x 64))), h) := by
  rw [r_bc0]
  congr 4
  have hx := nv_lt x
  -- the first three
  have c1 : nv (pp1 x) = sa 8 (nv x) := by
    unfold pp1 sa
    have e : nv (us x 1 &&& 6148914691236517205) = (nv x >>> 1) &&& rep 85 8 := by
      rw [nv_and, nv_us x 1 1 (by decide)]; rfl
    rw [nv_sub _ _ (by rw [e]; exact and_sh_le _ _ _), e]
  have c2 : nv (pp2 (pp1 x)) = sb 8 (sa 8 (nv x)) := by
    unfold pp2 sb
    rw [nv_add, nv_and, nv_and, nv_us _ 2 2 (by decide), c1]
    have m1 : nv 3689348814741910323 = rep 51 8 := rfl
    rw [m1]
    have b1 : sa 8 (nv x) &&& rep 51 8 ≤ rep 51 8 := Nat.and_le_right
    have b2 : sa 8 (nv x) >>> 2 &&& rep 51 8 ≤ rep 51 8 := Nat.and_le_right
    have b3 : rep 51 8 = 3689348814741910323 := by decide
    rw [b3] at b1 b2 ⊢
    exact Nat.mod_eq_of_lt (by omega)
  have c3 : nv (pp3 (pp2 (pp1 x))) = sd 8 (nv x) := by
    unfold pp3 sd sc
    rw [nv_and, nv_add, nv_us _ 4 4 (by decide), c2]
    have m1 : nv 1085102592571150095 = rep 15 8 := rfl
    rw [m1]
    have b1 : sb 8 (sa 8 (nv x)) ≤ 2 * 3689348814741910323 := by
      unfold sb
      have b1 : sa 8 (nv x) &&& rep 51 8 ≤ rep 51 8 := Nat.and_le_right
      have b2 : sa 8 (nv x) >>> 2 &&& rep 51 8 ≤ rep 51 8 := Nat.and_le_right
      have b3 : rep 51 8 = 3689348814741910323 := by decide
      rw [b3] at b1 b2 ⊢
      omega
    have b2 : sb 8 (sa 8 (nv x)) >>> 4 ≤ sb 8 (sa 8 (nv x)) / 16 := by rw [Nat.shiftRight_eq_div_pow]; exact Nat.le_refl _
    rw [Nat.mod_eq_of_lt (by omega)]
  -- eight digits
  obtain ⟨d0, k0⟩ := sd_step (k := 7) (x := nv x) hx
  obtain ⟨d1, k1⟩ := sd_step (k := 6) k0
  obtain ⟨d2, k2⟩ := sd_step (k := 5) k1
  obtain ⟨d3, k3⟩ := sd_step (k := 4) k2
  obtain ⟨d4, k4⟩ := sd_step (k := 3) k3
  obtain ⟨d5, k5⟩ := sd_step (k := 2) k4
  obtain ⟨d6, k6⟩ := sd_step (k := 1) k5
  obtain ⟨d7, k7⟩ := sd_step (k := 0) k6
  have d8 : ∀ y, y < 256 ^ 0 → sd 0 y = 0 := fun y hy => by
    have : y = 0 := by simpa using hy
    subst this; decide
  rw [d8 _ k7] at d7
  have lt : ∀ y : Nat, y % 256 < 256 := fun y => Nat.mod_lt _ (by decide)
  have cs : ∀ m n, cN m (8 + n) = bd (m % 256) + cN (m / 256) n := fun m n => by rw [cN_split, cN_low m 8 (by omega), (bd_c _ (lt m)).1]
  have b0 := (bd_c _ (lt (nv x))).2
  have b1 := (bd_c _ (lt (nv x / 256))).2
  have b2 := (bd_c _ (lt (nv x / 256 / 256))).2
  have b3 := (bd_c _ (lt (nv x / 256 / 256 / 256))).2
  have b4 := (bd_c _ (lt (nv x / 256 / 256 / 256 / 256))).2
  have b5 := (bd_c _ (lt (nv x / 256 / 256 / 256 / 256 / 256))).2
  have b6 := (bd_c _ (lt (nv x / 256 / 256 / 256 / 256 / 256 / 256))).2
  have b7 := (bd_c _ (lt (nv x / 256 / 256 / 256 / 256 / 256 / 256 / 256))).2
  have hc : ct x 64 = bd (nv x % 256) + (bd (nv x / 256 % 256) + (bd (nv x / 256 / 256 % 256) + (bd (nv x / 256 / 256 / 256 % 256) + (bd (nv x / 256 / 256 / 256 / 256 % 256) + (bd (nv x / 256 / 256 / 256 / 256 / 256 % 256) + (bd (nv x / 256 / 256 / 256 / 256 / 256 / 256 % 256) + bd (nv x / 256 / 256 / 256 / 256 / 256 / 256 / 256 % 256))))))) := by
    rw [ct_cN, show 64 = 8 + 56 from rfl, cs, show 56 = 8 + 48 from rfl, cs, show 48 = 8 + 40 from rfl, cs, show 40 = 8 + 32 from rfl, cs, show 32 = 8 + 24 from rfl, cs, show 24 = 8 + 16 from rfl, cs, show 16 = 8 + 8 from rfl, cs, show 8 = 8 + 0 from rfl, cs]
    rfl
  rw [hc]
  generalize bd (nv x % 256) = p0 at *
  generalize bd (nv x / 256 % 256) = p1 at *
  generalize bd (nv x / 256 / 256 % 256) = p2 at *
  generalize bd (nv x / 256 / 256 / 256 % 256) = p3 at *
  generalize bd (nv x / 256 / 256 / 256 / 256 % 256) = p4 at *
  generalize bd (nv x / 256 / 256 / 256 / 256 / 256 % 256) = p5 at *
  generalize bd (nv x / 256 / 256 / 256 / 256 / 256 / 256 % 256) = p6 at *
  generalize bd (nv x / 256 / 256 / 256 / 256 / 256 / 256 / 256 % 256) = p7 at *
  have e3 : nv (pp3 (pp2 (pp1 x))) = p0 + 256 * p1 + 65536 * p2 + 16777216 * p3 + 4294967296 * p4 + 1099511627776 * p5 + 281474976710656 * p6 + 72057594037927936 * p7 := by
    rw [c3, d0, d1, d2, d3, d4, d5, d6, d7]; omega
  generalize pp3 (pp2 (pp1 x)) = z3 at *
  have e4 : nv (pp4 z3) = nv z3 + nv z3 / 256 := by
    unfold pp4
    rw [nv_add, nv_us _ 8 8 (by decide), Nat.shiftRight_eq_div_pow]
    exact Nat.mod_eq_of_lt (by omega)
  generalize pp4 z3 = z4 at *
  have e5 : nv (pp5 z4) = nv z4 + nv z4 / 65536 := by
    unfold pp5
    rw [nv_add, nv_us _ 16 16 (by decide), Nat.shiftRight_eq_div_pow]
    exact Nat.mod_eq_of_lt (by omega)
  generalize pp5 z4 = z5 at *
  have e6 : nv (pp6 z5) = nv z5 + nv z5 / 4294967296 := by
    unfold pp6
    rw [nv_add, nv_us _ 32 32 (by decide), Nat.shiftRight_eq_div_pow]
    exact Nat.mod_eq_of_lt (by omega)
  generalize pp6 z5 = z6 at *
  have e7 : nv z6 % 128 = p0 + (p1 + (p2 + (p3 + (p4 + (p5 + (p6 + p7)))))) := by
    exact dig b0 b1 b2 b3 b4 b5 b6 b7 e3 e4 e5 e6
  rw [← e7]
  apply Int32.toBitVec_inj.mp
  apply BitVec.eq_of_toNat_eq
  rw [Int32.toBitVec_and, BitVec.toNat_and]
  have t1 : z6.toInt32.toBitVec.toNat = nv z6 % 4294967296 := by
    show (z6.toBitVec.signExtend 32).toNat = _
    rw [BitVec.signExtend_eq_setWidth_of_le _ (by decide), BitVec.toNat_setWidth]
    rfl
  have t2 : (127 : Int32).toBitVec.toNat = 127 := by decide
  have t3 : (nI (nv z6 % 128)).toBitVec.toNat = nv z6 % 128 := by
    show (BitVec.ofNat 32 (nv z6 % 128)).toNat = _
    rw [BitVec.toNat_ofNat]
    omega
  rw [t1, t2, t3, show (127 : Nat) = 2 ^ 7 - 1 from rfl, Nat.and_two_pow_sub_one_eq_mod]
  omega
theorem ct_up {s : Int64} {n : Nat} (hs : sub s n) : ∀ m, n ≤ m → m ≤ 64 → ct s m = ct s n := by
  intro m hm
  induction hm with
  | refl => intro _; rfl
  | @step m hm ih =>
    intro h64
    have hm : n ≤ m := hm
    show ct s m + (if bt s m = true then 1 else 0) = ct s n
    rw [ih (by omega)]
    have : bt s m = false := by
      cases hb : bt s m with
      | false => rfl
      | true => have := hs m (by omega) hb; omega
    rw [this]; rfl
