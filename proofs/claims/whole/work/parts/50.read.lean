/-! READ. -/
def Go (I : Nat → Int32) (l c : Nat) (s : Hst) : Prop := 3 * c + 2 < l ∧ s.1 < 40 ∧ okA s.1 (I (3 * c)) (I (3 * c + 1)) ∧ okT (I (3 * c + 2))
def Rd (I : Nat → Int32) (l : Nat) : Nat → Nat → Hst → Nat → Hst → Prop
  | 0, c, s, c', s' => c' = c ∧ s' = s
  | f + 1, c, s, c', s' => (¬ Go I l c s ∧ c' = c ∧ s' = s) ∨ (Go I l c s ∧ Rd I l f (c + 1) (ap s (I (3 * c)) (I (3 * c + 1)) (I (3 * c + 2))) c' s')
section RE
variable {n sl ly ev per s : Nat} {P Q K : Nat → Int32} {E : Nat → Int64} {h h' h1 h2 : mH}
theorem ni_2' (a : Nat) : nI a + 2 = nI (a + 2) := (Int32.ofNat_add a 2).symm
theorem ni_3' (a : Nat) : nI a + 3 = nI (a + 3) := (Int32.ofNat_add a 3).symm
theorem read_c (hs : s < 4) {l : Nat} (hl : l ≤ 60) (x1 : Int32) (I : Nat → Int32) : ∀ (f c : Nat) (st : Hst) (h : mH) (o5 o6 o7 : Option Value), c ≤ 20 → l ≤ 3 * (c + f) → HCt h sl st → gI h (19 + s) 2 = nI l → gI h (23 + s) = I → ∃ c' st' h', Rd I l f c st c' st' ∧ Ev 2 31 [some (.ref 0), some (.int x1), some (.ref (19 + s)), some (.int (nI c)), some (.int (nI (3 * c))), o5, o6, o7] [] h = some (some (.int (nI c')), h') ∧ HCt h' sl st' ∧ Za h h' ∧ st.1 ≤ st'.1 := by
  intro f
  have stop : ∀ (c : Nat) (h : mH) (o5 o6 o7 : Option Value), Ev 2 121 [some (.ref 0), some (.int x1), some (.ref (19 + s)), some (.int (nI c)), some (.int (nI (3 * c))), o5, o6, o7] [] h = some (some (.int (nI c)), h) := fun c h o5 o6 o7 => b2_121 _ _ _ _ _ _ _ _
  induction f with
  | zero =>
    intro c st h o5 o6 o7 hc hf w e1 e2
    refine ⟨c, st, h, ⟨rfl, rfl⟩, ?_, w, za_refl h, Nat.le_refl _⟩
    rw [b2_31S _ _ _ _ _ _ _ _ (shp_s hs).1, e1, ni_2', b2_39, if_pos (by rw [le_nI (by omega) (by omega)]; omega), stop]
  | succ f ih =>
    intro c st h o5 o6 o7 hc hf w e1 e2
    by_cases hl2 : 3 * c + 2 < l
    · have i0 : Rt 164 [.ref (19 + s), .int (nI (3 * c))] h = some (some (.int (I (3 * c))), h) := by rw [r_itemAt hs hl (by omega) e1, e2]
      have i1 : Rt 164 [.ref (19 + s), .int (nI (3 * c + 1))] h = some (some (.int (I (3 * c + 1))), h) := by rw [r_itemAt hs hl (by omega) e1, e2]
      have i2 : Rt 164 [.ref (19 + s), .int (nI (3 * c + 2))] h = some (some (.int (I (3 * c + 2))), h) := by rw [r_itemAt hs hl (by omega) e1, e2]
      have pre : Ev 2 31 [some (.ref 0), some (.int x1), some (.ref (19 + s)), some (.int (nI c)), some (.int (nI (3 * c))), o5, o6, o7] [] h = rI (Rt 127 [.ref 1, .int (I (3 * c)), .int (I (3 * c + 1)), .int (I (3 * c + 2))] h) (fun r h1 => Ev 2 83 [some (.ref 0), some (.int x1), some (.ref (19 + s)), some (.int (nI c)), some (.int (nI (3 * c))), some (.int (I (3 * c))), some (.int (I (3 * c + 1))), some (.int (I (3 * c + 2)))] [.int r] h1) := by
        rw [b2_31S _ _ _ _ _ _ _ _ (shp_s hs).1, e1, ni_2', b2_39, if_neg (by rw [le_nI (by omega) (by omega)]; omega), b2_42S _ _ _ _ _ _ _ _ (shp_s hs).1, i0, rI_some, b2_48S _ _ _ _ _ _ _ _ _ (shp_s hs).1, nI_1, i1, rI_some, b2_58S _ _ _ _ _ _ _ _ _ (shp_s hs).1, ni_2', i2, rI_some, b2_68]
      by_cases ho : okA st.1 (I (3 * c)) (I (3 * c + 1)) ∧ okT (I (3 * c + 2))
      · by_cases hn : st.1 < 40
        · obtain ⟨hA, a1, a2, a3⟩ := r_append (t := I (3 * c + 2)) w hn ho.1
          have f6 : ∀ k, 6 < k → gI hA k = gI h k := fun k hk => funext fun j => (a3 k j (Or.inr (Or.inl hk))).1
          obtain ⟨c', st', h', b1, b2, b3, b4, b5⟩ := ih (c + 1) _ hA (some (.int (I (3 * c)))) (some (.int (I (3 * c + 1)))) (some (.int (I (3 * c + 2)))) (by omega) (by omega) a2 (by rw [f6 _ (by omega)]; exact e1) (by rw [f6 _ (by omega)]; exact e2)
          refine ⟨c', st', h', Or.inr ⟨⟨hl2, hn, ho.1, ho.2⟩, b1⟩, ?_, b3, za_trans a3 b4, by have : st.1 + 1 ≤ st'.1 := b5; omega⟩
          rw [pre, adm_y w.1 ho.1 ho.2, rI_some, b2_83, if_neg (by decide), b2_86, full_no w.1.1 hn, rI_some, b2_93, if_pos rfl, b2_99, a1, rV_some, b2_112S, nI_1, ni_3', show 3 * c + 3 = 3 * (c + 1) by omega]
          exact b2
        · have h40 : st.1 ≤ 40 := w.1.2.2.2.2.2.2.2.1
          have hn40 : st.1 = 40 := by omega
          refine ⟨c, st, h, Or.inl ⟨fun q => hn q.2.1, rfl, rfl⟩, ?_, w, za_refl h, Nat.le_refl _⟩
          rw [pre, adm_y w.1 ho.1 ho.2, rI_some, b2_83, if_neg (by decide), b2_86, full_yes (by rw [w.1.1, hn40]), rI_some, b2_93, if_neg (by decide), b2_96, stop]
      · refine ⟨c, st, h, Or.inl ⟨fun q => ho ⟨q.2.2.1, q.2.2.2⟩, rfl, rfl⟩, ?_, w, za_refl h, Nat.le_refl _⟩
        rw [pre, adm_n w.1 ho, rI_some, b2_83, if_pos rfl, stop]
    · refine ⟨c, st, h, Or.inl ⟨fun q => hl2 q.1, rfl, rfl⟩, ?_, w, za_refl h, Nat.le_refl _⟩
      rw [b2_31S _ _ _ _ _ _ _ _ (shp_s hs).1, e1, ni_2', b2_39, if_pos (by rw [le_nI (by omega) (by omega)]; omega), stop]
theorem mul3 (c : Nat) : (3 : Int32) * nI c = nI (3 * c) := by rw [show (3 : Int32) = nI 3 from rfl, pk_mul]
theorem read_m (hs : s < 4) {l : Nat} (hl : l ≤ 60) (I : Nat → Int32) : ∀ (f c : Nat) (st : Hst) (h : mH) (o4 : Option Value) (c' : Nat) (st' : Hst), c ≤ 20 → l ≤ 3 * (c + f) → Rd I l f c st c' st' → HMt h sl st → gI h 29 s = nI l → (∀ j, j < l → gI h 30 (60 * s + j) = I j) → ∃ h', Ev 64 29 [some (.ref 27), some (.int (nI s)), some (.int (nI c)), some (.int 1), o4] [] h = some (some (.int (nI c')), h') ∧ HMt h' sl st' ∧ Zm h h' := by
  intro f
  have small : ∀ (c : Nat) (h : mH) (o4 : Option Value), c ≤ 20 → gI h 29 s = nI l → l < 3 * c + 3 → Ev 64 29 [some (.ref 27), some (.int (nI s)), some (.int (nI c)), some (.int 1), o4] [] h = some (some (.int (nI c)), h) := by
    intro c h o4 hc e hlt
    rw [b64_29, if_neg (by decide), b64_33, if_pos (gd4 hs), cl_nI (by omega), e, mul3, ni_3', b64_44, if_pos (by rw [lt_nI (by omega) (by omega)]; exact hlt), b64_110]
  induction f with
  | zero =>
    intro c st h o4 c' st' hc hf rd w e1 e2
    obtain ⟨rfl, rfl⟩ := rd
    exact ⟨h, small _ h o4 hc e1 (by omega), w, zm_refl h⟩
  | succ f ih =>
    intro c st h o4 c' st' hc hf rd w e1 e2
    by_cases hl2 : 3 * c + 2 < l
    · have pre : Ev 64 29 [some (.ref 27), some (.int (nI s)), some (.int (nI c)), some (.int 1), o4] [] h = rI (Rt 62 [.ref 27, .int (I (3 * c)), .int (I (3 * c + 1)), .int (I (3 * c + 2))] h) (fun r h1 => Ev 64 86 [some (.ref 27), some (.int (nI s)), some (.int (nI c)), some (.int 1), some (.int (nI (60 * s + 3 * c)))] [.int r] h1) := by
        have g0 : 0 ≤ nI (60 * s + 3 * c) ∧ (nI (60 * s + 3 * c)).toNatClampNeg < 240 := of_eq_true (gd_nI (N := 240) (by omega) (by omega))
        have g1 : 0 ≤ nI (60 * s + 3 * c + 1) ∧ (nI (60 * s + 3 * c + 1)).toNatClampNeg < 240 := of_eq_true (gd_nI (N := 240) (by omega) (by omega))
        have g2 : 0 ≤ nI (60 * s + 3 * c + 2) ∧ (nI (60 * s + 3 * c + 2)).toNatClampNeg < 240 := of_eq_true (gd_nI (N := 240) (by omega) (by omega))
        rw [b64_29, if_neg (by decide), b64_33, if_pos (gd4 hs), cl_nI (by omega), e1, mul3, ni_3', b64_44, if_neg (by rw [lt_nI (by omega) (by omega)]; omega), b64_47, mul3, ix60, if_pos g0, cl_nI (by omega), e2 _ (by omega), b64_65, nI_1, if_pos g1, cl_nI (by omega), show 60 * s + 3 * c + 1 = 60 * s + (3 * c + 1) by omega, e2 _ (by omega), b64_74, ni_2', if_pos g2, cl_nI (by omega), show 60 * s + 3 * c + 2 = 60 * s + (3 * c + 2) by omega, e2 _ (by omega), b64_83]
      have neg : ∀ (v : Int32) (h1 : mH), v < 0 → Ev 64 86 [some (.ref 27), some (.int (nI s)), some (.int (nI c)), some (.int 1), some (.int (nI (60 * s + 3 * c)))] [.int v] h1 = some (some (.int (nI c)), h1) := by
        intro v h1 hv
        have z0 : nI c + 0 = nI c := by simp
        rw [b64_86, if_pos hv, b64_93, b64_94, if_pos rfl, b64_104, b64_105, b64_29, if_pos rfl, b64_110, z0]
      rcases rd with ⟨ng, rfl, rfl⟩ | ⟨g, rd⟩
      · by_cases ho : okA st'.1 (I (3 * c')) (I (3 * c' + 1)) ∧ okT (I (3 * c' + 2))
        · have h40 : st'.1 ≤ 40 := w.1.2.2.2.2.2.2.1
          have hn40 : st'.1 = 40 := by
            have : ¬ st'.1 < 40 := fun q => ng ⟨hl2, q, ho.1, ho.2⟩
            omega
          refine ⟨h, ?_, w, zm_refl h⟩
          rw [pre, madd_f w ho.1 ho.2 hn40, rI_some, neg (-4) h (by decide)]
        · refine ⟨h, ?_, w, zm_refl h⟩
          rw [pre, madd_n w ho, rI_some, neg (-2) h (by decide)]
      · obtain ⟨hA, a1, a2, a3⟩ := madd_y w g.2.1 g.2.2.1 g.2.2.2
        have f30 : ∀ k, 27 < k → k < 32 → gI hA k = gI h k := fun k q1 q2 => funext fun j => (a3 k j (Or.inr (Or.inr (Or.inl ⟨q1, q2⟩)))).1
        obtain ⟨h', b1, b2, b3⟩ := ih (c + 1) _ hA (some (.int (nI (60 * s + 3 * c)))) c' st' (by omega) (by omega) rd a2 (by rw [f30 29 (by omega) (by omega)]; exact e1) (fun j hj => by rw [f30 30 (by omega) (by omega)]; exact e2 j hj)
        refine ⟨h', ?_, b2, zm_trans a3 b3⟩
        have hn := g.2.1
        rw [pre, a1, rI_some, ← b1, b64_86, if_neg (by rw [lt0_nI (by omega)]; exact fun q => q), b64_89, b64_94, if_neg (by decide), b64_100, b64_105, nI_1]
    · rcases rd with ⟨ng, rfl, rfl⟩ | ⟨g, rd⟩
      · exact ⟨h, small _ h o4 hc e1 (by omega), w, zm_refl h⟩
      · exact absurd g.1 hl2
theorem p_read (x : Int32) : Pr 2 64 [.int x] := by
  intro h i
  have i' := i
  obtain ⟨n, sl, ly, ev, per, P, Q, K, E, c, m, xx⟩ := i'
  rcases rng_s x with ⟨s, hs, rfl⟩ | hx
  · have mpre : ∀ h, Ev 64 0 [some (.ref 27), some (.int (nI s)), none, none, none] [] h = Ev 64 10 [some (.ref 27), some (.int (nI s)), none, none, none] [] h := by
      intro h
      rw [b64_0, r_isSheet hs, rI_some, b64_4, if_pos (by decide)]
    rcases inv_xs i hs with ⟨e1, e2⟩ | ⟨l, f, x1, x2, x3, x4, x5, x6, x7⟩
    · refine ⟨some (.int (fd 1)), sI h 0 7 1, sI (sI h 0 7 1) 27 4 1, ?_, ?_, inv_find i 1⟩
      · show Ev 2 0 [some (.ref 0), some (.int (nI s)), none, none, none, none, none, none] [] h = _
        rw [b2_0, r_sheetAt hs, rA_ref, b2_5S, b2_13S _ _ _ _ _ _ _ _ (shp_s hs).1, r_lost hs e1, rI_some, b2_17, if_neg (by decide), b2_20, r_finding, rI_some, b2_25]
      · refine Eq.trans (mpre _) ?_
        rw [b64_10, if_pos (gd4 hs), cl_nI (by omega), show gI (sI h 0 7 1) 28 s = -1 from by rw [fI_ne (by omega)]; exact e2, b64_16, if_neg (by decide), b64_19, r_finds, rI_some, b64_24]
    · have ct0 : HCt h sl (n, P, Q, K, E, gI h 4) := ⟨c, rfl⟩
      have mt0 : HMt h sl (n, P, Q, K, E, gI h 4) := ⟨m, xx.1⟩
      obtain ⟨c', st', h1, b1, b2, b3, b4, b5⟩ := read_c hs x1 (nI s) (gI h (23 + s)) 20 0 _ h none none none (by omega) (by omega) ct0 x3 rfl
      have m1 := hmt_za mt0 b4
      have f6 : ∀ k, 6 < k → gI h1 k = gI h k := fun k hk => funext fun j => (b4 k j (Or.inr (Or.inl hk))).1
      obtain ⟨h2, d1, d2, d3⟩ := read_m hs x1 (gI h (23 + s)) 20 0 _ h1 none c' st' (by omega) (by omega) b1 m1 (by rw [f6 29 (by omega)]; exact x4) (fun j hj => by rw [f6 30 (by omega)]; exact x7 j hj)
      refine ⟨some (.int (nI c')), h1, h2, ?_, ?_, inv_add xx b4 d3 b3 d2 b5⟩
      · show Ev 2 0 [some (.ref 0), some (.int (nI s)), none, none, none, none, none, none] [] h = _
        rw [b2_0, r_sheetAt hs, rA_ref, b2_5S, b2_13S _ _ _ _ _ _ _ _ (shp_s hs).1, r_notlost hs x1 x3, rI_some, b2_17, if_pos rfl, b2_26S]
        exact b2
      · refine Eq.trans (mpre h1) ?_
        rw [b64_10, if_pos (gd4 hs), cl_nI (by omega), f6 28 (by omega), x6, b64_16, if_pos (ge0f x2), b64_25]
        exact d1
  · refine pr_of h i (r := some (.int (-2))) (h1 := h) (h2 := h) ?_ (sx_refl [] _) (by decide) ?_ (sx_refl [] _) (by decide)
    · show Ev 2 0 [some (.ref 0), some (.int x), none, none, none, none, none, none] [] h = _
      rw [b2_0, r_sheetAt_no hx, rA_null, b2_5N]
    · show Ev 64 0 [some (.ref 27), some (.int x), none, none, none] [] h = _
      rw [b64_0, r_isSheet_no hx, rI_some, b64_4, if_neg (by decide), b64_7]
end RE
