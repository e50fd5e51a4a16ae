/-! DIGEST: the rest of the class; the model. -/
def fx (G : Nat → Nat → Int32) : Nat → Nat → Int64 → Int64
  | 0, _, z => z
  | k + 1, i, z => fx G k (i + 1) (fo (fun j => (G i j).toInt64) 3 0 z)
def dgX (had W g : Int64) (s : Tk) (v : Int32) (z : Int64) : Int64 := 31 * fx (fun i j => toB s g i (nI j)) 40 0 (fo (fun j => stB had W g s.cm (nI j)) 5 0 z) + v.toInt64
def dgL (n sl ev : Nat) (P Q K T : Nat → Int32) (E : Nat → Int64) : Nat → Nat → Int64 → Int64
  | 0, _, z => z
  | k + 1, c, z => dgL n sl ev P Q K T E k (c + 1) (dgC n sl P Q K E (n - 1) c (dgB ev P Q E c (dgA n sl P Q K T E c z)))
section DH
variable {n sl ly ev per : Nat} {P Q K : Nat → Int32} {E : Nat → Int64} {h h' h1 h2 : mH}
theorem tc_sx {g : Int64} {s : Tk} (q : TC h g s) (a : Sx [1, 2, 3, 4] h h') : TC h' g s := by
  obtain ⟨q0, q1, q2, q3, q4, q5, q6⟩ := q
  refine ⟨?_, ?_, ?_, ?_, ?_, ?_, fun i hi => ?_⟩
  · rw [(a 15 11 (by decide)).2]; exact q0
  · rw [(a 15 8 (by decide)).2]; exact q1
  · rw [(a 15 9 (by decide)).2]; exact q2
  · rw [(a 15 10 (by decide)).2]; exact q3
  · rw [(a 15 6 (by decide)).1]; exact q4
  · rw [(a 15 7 (by decide)).1]; exact q5
  · rw [(a 16 i (by rw [rg16]; decide)).1, (a 17 i (by rw [rg17]; decide)).1]; exact q6 i hi
theorem tm_sx {g : Int64} {m : Nat} {s : Tk} (q : TM h g m s) (a : Sx [6, 7, 8] h h') : TM h' g m s := by
  obtain ⟨q0, q1, q2, q3, q4, q5, q6, q7⟩ := q
  refine ⟨?_, ?_, ?_, ?_, ?_, ?_, fun i hi => ?_, fun i hi => ?_⟩
  · rw [(a 27 28 (by decide)).2]; exact q0
  · rw [(a 27 29 (by decide)).2]; exact q1
  · rw [(a 27 30 (by decide)).2]; exact q2
  · rw [(a 27 27 (by decide)).2]; exact q3
  · rw [(a 27 23 (by decide)).1]; exact q4
  · rw [(a 27 22 (by decide)).1]; exact q5
  · rw [(a 40 i (by rw [rg40]; decide)).1, (a 42 i (by rw [rg42]; decide)).1]; exact q6 i hi
  · rw [(a 41 i (by rw [rg41]; decide)).1]; exact q7 i hi
theorem le3 {i : Nat} (hi : i < 3) : ¬ (3 : Int32) ≤ nI i := by rw [show (3 : Int32) = nI 3 from rfl, le_nI (by omega) (by omega)]; omega
theorem mx1 (F : Nat → Int64) (hF : ∀ j, j < 5 → Rt 122 [.ref 15, .int (nI j)] h = some (some (.long (F j)), h)) (x1 : Int64) (o6 : Option Value) : ∀ (k i : Nat) (z : Int64) (o2 o4 : Option Value), i + k = 5 → ∃ q2 q4, Ev 36 5 [some (.ref 0), some (.long x1), o2, some (.long z), o4, some (.int (nI i)), o6] [] h = Ev 36 31 [some (.ref 0), some (.long x1), q2, some (.long (fo F k i z)), q4, some (.int (nI 5)), o6] [] h
  | 0, i, z, o2, o4, hk => by
    obtain rfl : i = 5 := by omega
    exact ⟨o2, o4, by rw [b36_5, if_pos (by decide)]; rfl⟩
  | k + 1, i, z, o2, o4, hk => by
    obtain ⟨q2, q4, e⟩ := mx1 F hF x1 o6 k (i + 1) (31 * z + F i) (kil o2) none (by omega)
    refine ⟨q2, q4, ?_⟩
    rw [fo, ← e, b36_5, if_neg (show ¬ (5 : Int32) ≤ nI i from by rw [show (5 : Int32) = nI 5 from rfl, le_nI (by omega) (by omega)]; omega), b36_11, hF i (by omega), rL_some, b36_21, r_mix, rL_some, b36_24, nI_1]
theorem mx2 (F : Nat → Int32) {a : Nat} (hF : ∀ j, j < 3 → Rt 123 [.ref 15, .int (nI a), .int (nI j)] h = some (some (.int (F j)), h)) (x1 : Int64) : ∀ (k i : Nat) (z : Int64) (o2 o4 : Option Value), i + k = 3 → ∃ q2 q4, Ev 36 44 [some (.ref 0), some (.long x1), o2, some (.long z), o4, some (.int (nI a)), some (.int (nI i))] [] h = Ev 36 73 [some (.ref 0), some (.long x1), q2, some (.long (fo (fun j => (F j).toInt64) k i z)), q4, some (.int (nI a)), some (.int (nI 3))] [] h
  | 0, i, z, o2, o4, hk => by
    obtain rfl : i = 3 := by omega
    exact ⟨o2, o4, by rw [b36_44, if_pos (by decide)]; rfl⟩
  | k + 1, i, z, o2, o4, hk => by
    obtain ⟨q2, q4, e⟩ := mx2 F hF x1 k (i + 1) (31 * z + (F i).toInt64) (kil o2) none (by omega)
    refine ⟨q2, q4, ?_⟩
    rw [fo, ← e, b36_44, if_neg (le3 (by omega)), b36_50, hF i (by omega), rI_some, b36_62, r_mix, rL_some, b36_66, nI_1]
theorem mx3 (G : Nat → Nat → Int32) (hG : ∀ i j, i < 40 → j < 3 → Rt 123 [.ref 15, .int (nI i), .int (nI j)] h = some (some (.int (G i j)), h)) (x1 : Int64) : ∀ (k i : Nat) (z : Int64) (o2 o4 o6 : Option Value), i + k = 40 → ∃ q2 q4 q6, Ev 36 34 [some (.ref 0), some (.long x1), o2, some (.long z), o4, some (.int (nI i)), o6] [] h = Ev 36 79 [some (.ref 0), some (.long x1), q2, some (.long (fx G k i z)), q4, some (.int (nI 40)), q6] [] h
  | 0, i, z, o2, o4, o6, hk => by
    obtain rfl : i = 40 := by omega
    exact ⟨o2, o4, o6, by rw [b36_34, if_pos (by decide)]; rfl⟩
  | k + 1, i, z, o2, o4, o6, hk => by
    obtain ⟨p2, p4, e1⟩ := mx2 (G i) (fun j hj => hG i j (by omega) hj) x1 3 0 z o2 o4 rfl
    obtain ⟨q2, q4, q6, e⟩ := mx3 G hG x1 k (i + 1) (fo (fun j => (G i j).toInt64) 3 0 z) p2 (kil p4) (some (.int (nI 3))) (by omega)
    refine ⟨q2, q4, q6, ?_⟩
    rw [fx, ← e, b36_34, if_neg (by rw [le40 (by omega)]; omega), b36_41]
    refine Eq.trans e1 ?_
    rw [b36_73, nI_1]
theorem r_mixExchange (c : HC h n sl P Q K E) {g : Int64} {s : Tk} (q : TC h g s) (t : TI n s) (z : Int64) : Rt 36 [.ref 0, .long z] h = some (some (.long (dgX (gJ h 15 0) (gJ h 15 1) g s (orI (gI h 4) (g &&& (s.cm ^^^ (-1))) n &&& (orI (gI h 4) s.cm n ^^^ (-1))) z)), h) := by
  have h40 := c.2.2.2.2.2.2.2.1
  show Ev 36 0 [some (.ref 0), some (.long z), none, none, none, none, none] [] h = _
  have hS : ∀ j, j < 5 → Rt 122 [.ref 15, .int (nI j)] h = some (some (.long (stB (gJ h 15 0) (gJ h 15 1) g s.cm (nI j))), h) := fun j hj => by
    rw [r_setOf, q.1, q.2.2.2.1]
  obtain ⟨q2, q4, e⟩ := mx1 _ hS z none 5 0 z (kil none) none rfl
  obtain ⟨p2, p4, p6, e2⟩ := mx3 (fun i j => toB s g i (nI j)) (fun i j hi hj => r_tellingPart q t h40 (by omega) (nI j)) z 40 0 (fo (fun j => stB (gJ h 15 0) (gJ h 15 1) g s.cm (nI j)) 5 0 z) q2 (kil q4) none rfl
  rw [b36_0]
  refine Eq.trans e ?_
  rw [b36_31]
  refine Eq.trans e2 ?_
  rw [b36_79, r_thingsSent c, rI_some, b36_91, r_mix, rL_some, b36_95, q.1, q.2.2.2.1]
  rfl
theorem cdig_loop (v1 : 1 ≤ ev) (v2 : ev ≤ 10) (T : Nat → Int32) : ∀ (k c : Nat) (z : Int64) (h : mH) (o2 : Option Value), c + k = n → HC h n sl P Q K E → gI h 14 0 = nI ev → gI h 4 = T → ∃ h' q2, Ev 30 21 [some (.ref 0), some (.long z), o2, some (.int (nI c))] [] h = Ev 30 68 [some (.ref 0), some (.long (dgL n sl ev P Q K T E k c z)), q2, some (.int (nI n))] [] h' ∧ Sx [1, 2, 3, 4] h h'
  | 0, c, z, h, o2, hk, w, he, hT => by
    obtain rfl : c = n := by omega
    have h40 := w.2.2.2.2.2.2.2.1
    refine ⟨h, o2, ?_, sx_refl _ _⟩
    rw [b30_21, w.1, if_pos (by rw [le_nI (by omega) (by omega)]; omega)]; rfl
  | k + 1, c, z, h, o2, hk, w, he, hT => by
    have h40 := w.2.2.2.2.2.2.2.1
    obtain ⟨hA, a1, a2⟩ := r_mixKept w he v1 v2 (show c < n by omega) (dgA n sl P Q K T E c z)
    have wA := hc_sx w a2 (by decide)
    obtain ⟨hB, b1, b2⟩ := r_mixPairs wA (show c < n by omega) (show n - 1 < n by omega) (dgB ev P Q E c (dgA n sl P Q K T E c z))
    have s2 : Sx [1, 2, 3, 4] h hB := sx_trans (sx_mono a2 (by decide)) b2
    obtain ⟨h', q2, e1, e2⟩ := cdig_loop v1 v2 T k (c + 1) (dgC n sl P Q K E (n - 1) c (dgB ev P Q E c (dgA n sl P Q K T E c z))) hB none (by omega) (hc_sx w s2 (by decide)) (by rw [(s2 14 0 (by decide)).1]; exact he) (by rw [sx_fI s2 (fun j => by rw [rg4]; decide)]; exact hT)
    refine ⟨h', q2, ?_, sx_trans s2 e2⟩
    have d1 := r_mixCommit w (show c < n by omega) z
    rw [hT] at d1
    rw [dgL, ← e1, b30_21, w.1, if_neg (by rw [le_nI (by omega) (by omega)]; omega), b30_32, d1, rL_some, b30_38, a1, rL_some, b30_45, wA.1, ni_1 (by omega), b1, rL_some, b30_61, nI_1]
/-- the digest, as one number -/
def dgZ (n sl ly ev per : Nat) (P Q K : Nat → Int32) (E : Nat → Int64) (h : mH) : Int64 := dgX (gJ h 15 0) (gJ h 15 1) (gB n E h) (Tb n P Q K E per h) (orI (gI h 4) (gB n E h &&& ((Tb n P Q K E per h).cm ^^^ (-1))) n &&& (orI (gI h 4) (Tb n P Q K E per h).cm n ^^^ (-1))) (dgL n sl ev P Q K (gI h 4) E n 0 (fo (fun j => (lyB h ly j).toInt64) 10 0 (fo (fun j => (cnB h n sl ly (Tb n P Q K E per h) (gB n E h) j).toInt64) 8 0 17)))
theorem r_cdigest (c : HC h n sl P Q K E) (x : Ix h n sl ly ev per) : ∃ h', Rt 30 [.ref 0] h = some (some (.long (dgZ n sl ly ev per P Q K E h)), h') ∧ Sx [1, 2, 3, 4, 5] h h' := by
  have h40 := c.2.2.2.2.2.2.2.1
  have hsl := c.2.2.1
  obtain ⟨h1, e1, e2, e3⟩ := tk_c c x
  have c1 := hc_sx c e2 (by decide)
  have x1 := ix_sx e2 (by decide) x
  have t := tk_i c.2.2.2.2.2.2.2 x
  have k4 : gI h1 4 = gI h 4 := sx_fI e2 (fun j => by rw [rg4]; decide)
  have k7 : gI h1 7 = gI h 7 := sx_fI e2 (fun j => by rw [rg7]; decide)
  have hcn : ∀ j, j < 8 → Rt 31 [.ref 0, .int (nI j)] h1 = some (some (.int (cnB h n sl ly (Tb n P Q K E per h) (gB n E h) j)), h1) := by
    intro j hj
    rw [← cnB_sx e2 (by decide)]
    by_cases hm : j = 5 ∨ j = 6 ∨ j = 7
    · exact cn_c1 (ly := ly) c1 (h' := h) e3 hm
    · exact cn_c0 c1 x1 _ _ (by omega)
  have hly : ∀ j, j < 10 → Rt 132 [.ref 1, .int (nI j)] h1 = some (some (.int (lyB h ly j)), h1) := by
    intro j hj
    rw [r_layerSize x1.2.2.1 (by have := x1.2.2.2.2.1; omega) (by omega), lyB, lyB, k7]
  have d1 := r_mixCounts _ _ hcn hly 17
  obtain ⟨h2, q2, f1, f2⟩ := cdig_loop x1.2.2.2.2.2.2.2.1 x1.2.2.2.2.2.2.2.2.1 (gI h 4) n 0 (fo (fun j => (lyB h ly j).toInt64) 10 0 (fo (fun j => (cnB h n sl ly (Tb n P Q K E per h) (gB n E h) j).toInt64) 8 0 17)) h1 none (by omega) c1 x1.2.2.2.2.2.1 k4
  have g1 := r_mixExchange (hc_sx c1 f2 (by decide)) (tc_sx e3 f2) t (dgL n sl ev P Q K (gI h 4) E n 0 (fo (fun j => (lyB h ly j).toInt64) 10 0 (fo (fun j => (cnB h n sl ly (Tb n P Q K E per h) (gB n E h) j).toInt64) 8 0 17)))
  refine ⟨h2, ?_, sx_trans (sx_mono e2 (by decide)) (sx_mono f2 (by decide))⟩
  show Ev 30 0 [some (.ref 0), none, none, none] [] h = _
  rw [b30_0, e1, rV_some, b30_11, d1, rL_some, b30_18]
  refine Eq.trans f1 ?_
  rw [b30_68, g1, rL_some, b30_73, (f2 15 0 (by decide)).2, (f2 15 1 (by decide)).2, (e2 15 0 (by decide)).2, (e2 15 1 (by decide)).2, sx_fI f2 (fun j => by rw [rg4]; decide), k4]
  rfl
end DH
