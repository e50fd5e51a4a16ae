/-! COPY. -/
section CP
variable {n sl ly ev per s r : Nat} {P Q K : Nat → Int32} {E : Nat → Int64} {h h' h1 h2 : mH}
theorem lsum {i m : Nat} (hi : i < 2147483648) (hm : m < 2147483648) : ((nI i).toInt64 + (nI m).toInt64).toInt = (i : Int) + m := by
  rw [Int64.toInt_add, Int32.toInt_toInt64, Int32.toInt_toInt64, nI_toInt (by omega), nI_toInt (by omega)]
  exact Int.bmod_eq_of_le (by omega) (by omega)
theorem lcmp_le (x y : Int64) : (lg_cmp x y ≤ 0) = ¬ y < x := by
  rw [← lcmp_gt x y]; exact propext Int32.not_lt.symm
theorem sum_gt {i m l : Nat} (hi : i < 2147483648) (hm : m < 2147483648) (hl : l ≤ 60) : ((nI l).toInt64 < (nI i).toInt64 + (nI m).toInt64) = (l < i + m) := by
  rw [Int64.lt_iff_toInt_lt, lsum hi hm, Int32.toInt_toInt64, nI_toInt (by omega)]
  exact propext (by omega)
theorem run_yes (hs : s < 4) {l i m : Nat} (hl : l ≤ 60) (him : i + m ≤ l) (e : gI h (19 + s) 2 = nI l) : Rt 163 [.ref (19 + s), .int (nI i), .int (nI m)] h = some (some (.int 1), h) := by
  show Ev 163 0 [some (.ref (19 + s)), some (.int (nI i)), some (.int (nI m))] [] h = _
  rw [b163_0, if_neg (by rw [lt0_nI (by omega)]; exact fun q => q), b163_4, if_neg (by rw [lt0_nI (by omega)]; exact fun q => q), b163_8 _ _ _ _ (shp_s hs).1, e, b163_13, if_neg (by rw [lt_nI (by omega) (by omega)]; omega), b163_16 _ _ _ _ (shp_s hs).1, e, b163_21, pk_sub (by omega), if_neg (by rw [lt_nI (by omega) (by omega)]; omega), b163_26, b163_31, if_pos (Or.inr rfl)]
theorem run_no (hs : s < 4) {l : Nat} (hl : l ≤ 60) {x y : Int32} (hx : ¬ ∃ i m, i + m ≤ l ∧ x = nI i ∧ y = nI m) (e : gI h (19 + s) 2 = nI l) : Rt 163 [.ref (19 + s), .int x, .int y] h = some (some (.int 0), h) := by
  show Ev 163 0 [some (.ref (19 + s)), some (.int x), some (.int y)] [] h = _
  have tl0 : Ev 163 30 [some (.ref (19 + s)), some (.int x), some (.int y)] [] h = some (some (.int 0), h) := by
    rw [b163_30, b163_31, if_pos (Or.inl rfl)]
  rw [b163_0]
  rcases int_cases x with h0 | ⟨i, hi, rfl⟩
  · rw [if_pos h0, tl0]
  rw [if_neg (by rw [lt0_nI (by omega)]; exact fun q => q), b163_4]
  rcases int_cases y with h0 | ⟨m, hm, rfl⟩
  · rw [if_pos h0, tl0]
  have him : l < i + m := by
    rcases Nat.lt_or_ge l (i + m) with q | q
    · exact q
    · exact absurd ⟨i, m, q, rfl, rfl⟩ hx
  rw [if_neg (by rw [lt0_nI (by omega)]; exact fun q => q), b163_8 _ _ _ _ (shp_s hs).1, e, b163_13]
  by_cases hil : l < i
  · rw [if_pos (by rw [lt_nI (by omega) (by omega)]; exact hil), tl0]
  · rw [if_neg (by rw [lt_nI (by omega) (by omega)]; exact hil), b163_16 _ _ _ _ (shp_s hs).1, e, b163_21, pk_sub (by omega), if_pos (by rw [lt_nI (by omega) (by omega)]; omega), tl0]
theorem ix3 (s i t : Nat) : (60 : Int32) * nI s + nI i + nI t = nI (60 * s + i + t) := by
  rw [ix60]; exact (Int32.ofNat_add _ _).symm
/-- out, into the row beside -/
theorem out_loop (hs : s < 4) {m p : Nat} (hp : p + m ≤ 60) (x3 x4 : Int32) : ∀ (k t : Nat) (h : mH), t + k = m → ∃ h', Ev 57 120 [some (.ref 27), some (.int (nI s)), some (.int (nI p)), some (.int x3), some (.int x4), some (.int (nI m)), some (.int (nI t))] [] h = Ev 57 154 [some (.ref 27), some (.int (nI s)), some (.int (nI p)), some (.int x3), some (.int x4), some (.int (nI m)), some (.int (nI m))] [] h' ∧ Sx [10] h h' ∧ (∀ j, j < t → gI h' 31 j = gI h 31 j) ∧ ∀ j, t ≤ j → j < m → gI h' 31 j = gI h 30 (60 * s + p + j)
  | 0, t, h, hk => by
    obtain rfl : t = m := by omega
    refine ⟨h, ?_, sx_refl _ _, fun _ _ => rfl, fun j h1 h2 => by omega⟩
    rw [b57_120, if_pos (by rw [le_nI (by omega) (by omega)]; omega)]
  | k + 1, t, h, hk => by
    obtain ⟨h', e1, e2, e3, e4⟩ := out_loop hs hp x3 x4 k (t + 1) (sI h 31 t (gI h 30 (60 * s + p + t))) (by omega)
    refine ⟨h', ?_, sx_trans (sx_sI (sx_refl _ _) (by rw [rg31]; decide)) e2, fun j hj => ?_, fun j h1 h2 => ?_⟩
    · rw [← e1, b57_120, if_neg (by rw [le_nI (by omega) (by omega)]; omega), b57_127, ix3, if_pos (of_eq_true (gd_nI (a := 60 * s + p + t) (N := 240) (by omega) (by omega))), cl_nI (by omega), b57_147, if_pos (of_eq_true (gd_nI (a := t) (N := 60) (by omega) (by omega))), cl_nI (by omega), b57_148, nI_1]
    · rw [e3 j (by omega), up_sI, up, if_neg (by omega)]
    · by_cases hj : j = t
      · subst hj; rw [e3 j (by omega), up_sI, up, if_pos rfl]
      · rw [e4 j (by omega) h2, fI_ne (by omega)]
theorem back_loop (hr : r < 4) {m q : Nat} (hq : q + m ≤ 60) (x1 x2 : Int32) : ∀ (k t : Nat) (h : mH), t + k = m → ∃ h', Ev 57 157 [some (.ref 27), some (.int x1), some (.int x2), some (.int (nI r)), some (.int (nI q)), some (.int (nI m)), some (.int (nI t))] [] h = some (some (.int 1), h') ∧ Zs r h h' ∧ (∀ k, ¬ k = 30 → gI h' k = gI h k) ∧ (∀ j, (j < 60 * r + q + t ∨ 60 * r + q + m ≤ j) → gI h' 30 j = gI h 30 j) ∧ ∀ j, t ≤ j → j < m → gI h' 30 (60 * r + q + j) = gI h 31 j
  | 0, t, h, hk => by
    obtain rfl : t = m := by omega
    refine ⟨h, ?_, zs_refl r h, fun _ _ => rfl, fun _ _ => rfl, fun j h1 h2 => by omega⟩
    rw [b57_157, if_pos (by rw [le_nI (by omega) (by omega)]; omega), b57_192]
  | k + 1, t, h, hk => by
    obtain ⟨h', e1, e2, e3, e4, e5⟩ := back_loop hr hq x1 x2 k (t + 1) (sI h 30 (60 * r + q + t) (gI h 31 t)) (by omega)
    refine ⟨h', ?_, zs_trans (zs_sI (zs_refl r h) (Or.inr (Or.inr (Or.inr (Or.inr ⟨rfl, by omega, by omega⟩))))) e2, fun k hk => ?_, fun j hj => ?_, fun j h1 h2 => ?_⟩
    · rw [← e1, b57_157, if_neg (by rw [le_nI (by omega) (by omega)]; omega), b57_164, ix3, if_pos (of_eq_true (gd_nI (a := t) (N := 60) (by omega) (by omega))), cl_nI (by omega), b57_185, if_pos (of_eq_true (gd_nI (a := 60 * r + q + t) (N := 240) (by omega) (by omega))), cl_nI (by omega), b57_186, nI_1]
    · rw [e3 k hk, fI_ne hk]
    · rw [e4 j (by omega), up_sI, up, if_neg (by omega)]
    · by_cases hj : j = t
      · subst hj; rw [e4 _ (by omega), up_sI, up, if_pos rfl]
      · rw [e5 j (by omega) h2, fI_ne (by omega)]
theorem f0 {v : Int32} (h : v < 0) : ¬ 0 ≤ v := fun q => absurd h (Int32.not_lt.mpr q)
theorem p_copy (x p y q m : Int32) : Pr 27 57 [.int x, .int p, .int y, .int q, .int m] := by
  intro h i
  rcases rng_s x with ⟨s, hs, rfl⟩ | hx
  · rcases rng_s y with ⟨r, hr, rfl⟩ | hy
    · have cpre : Ev 27 0 [some (.ref 0), some (.int (nI s)), some (.int p), some (.int (nI r)), some (.int q), some (.int m), none, none] [] h = Ev 27 27 [some (.ref 0), some (.int (nI s)), some (.int p), some (.int (nI r)), some (.int q), some (.int m), some (.ref (19 + s)), some (.ref (19 + r))] [] h := by
        rw [b27_0, r_sheetAt hs, rA_ref, b27_5S, r_sheetAt hr, rA_ref, b27_12SS]
      have mpre : ∀ h, Ev 57 0 [some (.ref 27), some (.int (nI s)), some (.int p), some (.int (nI r)), some (.int q), some (.int m), none] [] h = Ev 57 17 [some (.ref 27), some (.int (nI s)), some (.int p), some (.int (nI r)), some (.int q), some (.int m), none] [] h := by
        intro h
        rw [b57_0, r_isSheet hs, rI_some, b57_4, if_neg (by decide), b57_7, r_isSheet hr, rI_some, b57_11, if_pos (by decide)]
      have lostC : ∀ v, Ev 27 43 [some (.ref 0), some (.int (nI s)), some (.int p), some (.int (nI r)), some (.int q), some (.int m), some (.ref (19 + s)), some (.ref (19 + r))] [] v = some (some (.int (fd 1)), sI v 0 7 1) := fun v => by
        rw [b27_43, r_finding, rI_some, b27_48]
      have lostM : ∀ v, Ev 57 35 [some (.ref 27), some (.int (nI s)), some (.int p), some (.int (nI r)), some (.int q), some (.int m), none] [] v = some (some (.int (fd 1)), sI v 27 4 1) := fun v => by
        rw [b57_35, r_finds, rI_some, b57_40]
      rcases inv_xs i hs with ⟨e1, e2⟩ | ⟨l, f, x1, x2, x3, x4, x5, x6, x7⟩
      · refine ⟨some (.int (fd 1)), sI h 0 7 1, sI (sI h 0 7 1) 27 4 1, ?_, ?_, inv_find i 1⟩
        · refine Eq.trans cpre ?_
          rw [b27_27S _ _ _ _ _ _ _ _ (shp_s hs).1, r_lost hs e1, rI_some, b27_32, if_pos (by decide), lostC]
        · refine Eq.trans (mpre _) ?_
          rw [b57_17, if_pos (gd4 hs), cl_nI (by omega), show gI (sI h 0 7 1) 28 s = -1 from by rw [fI_ne (by omega)]; exact e2, b57_23, if_pos (by decide), lostM]
      rcases inv_xs i hr with ⟨e1, e2⟩ | ⟨l', f', y1, y2, y3, y4, y5, y6, y7⟩
      · refine ⟨some (.int (fd 1)), sI h 0 7 1, sI (sI h 0 7 1) 27 4 1, ?_, ?_, inv_find i 1⟩
        · refine Eq.trans cpre ?_
          rw [b27_27S _ _ _ _ _ _ _ _ (shp_s hs).1, r_notlost hs x1 x3, rI_some, b27_32, if_neg (by decide), b27_35S _ _ _ _ _ _ _ _ (shp_s hr).1, r_lost hr e1, rI_some, b27_40, if_neg (by decide), lostC]
        · refine Eq.trans (mpre _) ?_
          rw [b57_17, if_pos (gd4 hs), cl_nI (by omega), show gI (sI h 0 7 1) 28 s = nI f from by rw [fI_ne (by omega)]; exact x6, b57_23, if_neg (by rw [lt0_nI (by omega)]; exact fun q => q), b57_26, if_pos (gd4 hr), cl_nI (by omega), show gI (sI h 0 7 1) 28 r = -1 from by rw [fI_ne (by omega)]; exact e2, b57_32, if_neg (by decide), lostM]
      have cpre2 : Ev 27 0 [some (.ref 0), some (.int (nI s)), some (.int p), some (.int (nI r)), some (.int q), some (.int m), none, none] [] h = (if nI f = nI f' then Ev 27 68 [some (.ref 0), some (.int (nI s)), some (.int p), some (.int (nI r)), some (.int q), some (.int m), some (.ref (19 + s)), some (.ref (19 + r))] [] h else Ev 27 62 [some (.ref 0), some (.int (nI s)), some (.int p), some (.int (nI r)), some (.int q), some (.int m), some (.ref (19 + s)), some (.ref (19 + r))] [] h) := by
        rw [cpre, b27_27S _ _ _ _ _ _ _ _ (shp_s hs).1, r_notlost hs x1 x3, rI_some, b27_32, if_neg (by decide), b27_35S _ _ _ _ _ _ _ _ (shp_s hr).1, r_notlost hr y1 y3, rI_some, b27_40, if_pos rfl, b27_49S _ _ _ _ _ _ _ _ (shp_s hs).1, x5, b27_54S _ _ _ _ _ _ _ _ _ (shp_s hr).1, y5, b27_59]
      have mpre2 : ∀ v, gI v 28 = gI h 28 → Ev 57 0 [some (.ref 27), some (.int (nI s)), some (.int p), some (.int (nI r)), some (.int q), some (.int m), none] [] v = (if nI f = nI f' then Ev 57 62 [some (.ref 27), some (.int (nI s)), some (.int p), some (.int (nI r)), some (.int q), some (.int m), none] [] v else Ev 57 56 [some (.ref 27), some (.int (nI s)), some (.int p), some (.int (nI r)), some (.int q), some (.int m), none] [] v) := by
        intro v ev
        rw [mpre, b57_17, if_pos (gd4 hs), cl_nI (by omega), ev, x6, b57_23, if_neg (by rw [lt0_nI (by omega)]; exact fun q => q), b57_26, if_pos (gd4 hr), cl_nI (by omega), ev, y6, b57_32, if_pos (ge0f y2), b57_41, if_pos (gd4 hs), cl_nI (by omega), ev, x6, b57_47, if_pos (gd4 hr), cl_nI (by omega), ev, y6, b57_53]
      by_cases hff : nI f = nI f'
      · rw [if_pos hff] at cpre2
        have mpre3 : ∀ v, gI v 28 = gI h 28 → _ := fun v ev => (mpre2 v ev).trans (if_pos hff)
        by_cases hok : ∃ a b c, a + c ≤ l ∧ b + c ≤ l' ∧ p = nI a ∧ q = nI b ∧ m = nI c
        · obtain ⟨a, b, c, h1, h2, rfl, rfl, rfl⟩ := hok
          obtain ⟨hA, eA⟩ : ∃ hA, hA = cpI h (23 + s) a (23 + r) b c := ⟨_, rfl⟩
          have gA : ∀ k, ¬ k = 23 + r → gI hA k = gI h k := fun k hk => funext fun j => by rw [eA, gI_cpI, if_neg (fun q => hk q.1)]
          obtain ⟨hB, f1, f2, f3, f4⟩ := out_loop hs (m := c) (p := a) (by omega) (nI r) (nI b) c 0 hA (by omega)
          obtain ⟨hC, g1, g2, g3, g4, g5⟩ := back_loop hr (m := c) (q := b) (by omega) (nI s) (nI a) c 0 hB (by omega)
          have zA : Zs r h hA := by
            intro k j p1 p2 p3 p4 p5 p6
            rw [gA k p3, eA, gJ_cpI]; exact ⟨rfl, rfl⟩
          have gB : ∀ k, k = 19 + r ∨ k = 28 ∨ k = 29 → gI hC k = gI h k := by
            intro k hk
            rw [g3 k (by omega), show gI hB k = gI hA k from funext fun j => (f2 k j (by rcases hk with rfl | rfl | rfl; rw [(rg19 hr j).1]; decide; rw [rg28]; decide; rw [rg29]; decide)).1, gA k (by omega)]
          refine ⟨some (.int 1), hA, hC, ?_, ?_, ?_⟩
          · refine Eq.trans cpre2 ?_
            have hcond : ((shp (19 + s + 4)).1 = 1 ∧ (shp (19 + r + 4)).1 = 1) ∧ (0 ≤ nI a ∧ 0 ≤ nI b ∧ 0 ≤ nI c) ∧ (nI a).toNatClampNeg + (nI c).toNatClampNeg ≤ (shp (19 + s + 4)).2 ∧ (nI b).toNatClampNeg + (nI c).toNatClampNeg ≤ (shp (19 + r + 4)).2 := by
              rw [(shp_s hs).2, (shp_s hr).2, cl_nI (by omega), cl_nI (by omega), cl_nI (by omega), ge0_nI (by omega), ge0_nI (by omega), ge0_nI (by omega)]
              exact ⟨⟨rfl, rfl⟩, ⟨trivial, trivial, trivial⟩, by show a + c ≤ 60; omega, by show b + c ≤ 60; omega⟩
            rw [b27_68S _ _ _ _ _ _ _ _ (shp_s hs).1, run_yes hs x1 h1 x3, rI_some, b27_76, if_neg (by decide), b27_79S _ _ _ _ _ _ _ _ (shp_s hr).1, run_yes hr y1 h2 y3, rI_some, b27_88, if_pos (by decide), b27_97S _ _ _ _ _ _ _ _ (shp_s hs).1, b27_102S _ _ _ _ _ _ _ _ _ (shp_s hr).1, b27_108, if_pos hcond, cl_nI (by omega), cl_nI (by omega), cl_nI (by omega), show 19 + s + 4 = 23 + s by omega, show 19 + r + 4 = 23 + r by omega, ← eA, b27_115]
          · refine Eq.trans (mpre3 hA (gA 28 (by omega))) ?_
            have nlt : ∀ u, u < 2147483648 → ¬ nI u < 0 := fun u hu => by rw [lt0_nI hu]; exact fun q => q
            rw [b57_62, if_neg (nlt a (by omega)), b57_66, if_neg (nlt b (by omega)), b57_71, if_neg (nlt c (by omega)), b57_76, if_pos (gd4 hs), cl_nI (by omega), gA 29 (by omega), x4, b57_88, if_neg (by rw [lcmp_gt, sum_gt (by omega) (by omega) x1]; omega), b57_93, if_pos (gd4 hr), cl_nI (by omega), gA 29 (by omega), y4, b57_106, if_pos (by rw [lcmp_le, sum_gt (by omega) (by omega) y1]; omega), b57_117]
            refine Eq.trans f1 ?_
            rw [b57_154]
            exact g1
          · have zB : Zs r hA hB := zs_sx f2 (by decide)
            refine inv_sheet i hr (zs_trans zA (zs_trans zB g2)) (Or.inr ⟨l', f', y1, y2, ?_, ?_, ?_, ?_, fun j hj => ?_⟩)
            · rw [gB _ (Or.inl rfl)]; exact y3
            · rw [gB _ (Or.inr (Or.inr rfl))]; exact y4
            · rw [gB _ (Or.inl rfl)]; exact y5
            · rw [gB _ (Or.inr (Or.inl rfl))]; exact y6
            · have k30 : gI hB 30 = gI h 30 := by
                rw [show gI hB 30 = gI hA 30 from funext fun j => (f2 30 j (by rw [rg30]; decide)).1, gA 30 (by omega)]
              have k23 : gI hC (23 + r) j = gI hA (23 + r) j := by
                rw [g3 _ (by omega)]; exact (f2 (23 + r) j (by rw [(rg19 hr j).2]; decide)).1
              rw [k23, eA, gI_cpI]
              by_cases hj2 : b ≤ j ∧ j < b + c
              · rw [if_pos ⟨rfl, hj2⟩, show 60 * r + j = 60 * r + b + (j - b) by omega, g5 (j - b) (by omega) (by omega), f4 (j - b) (by omega) (by omega), gA 30 (by omega), show 60 * s + a + (j - b) = 60 * s + (a + (j - b)) by omega]
                exact x7 _ (by omega)
              · rw [if_neg (fun q => hj2 q.2), g4 _ (by omega), k30]; exact y7 j hj
        · refine ⟨some (.int (fd 2)), sI h 0 7 2, sI (sI h 0 7 2) 27 4 2, ?_, ?_, inv_find i 2⟩
          · refine Eq.trans cpre2 ?_
            have fin : Ev 27 91 [some (.ref 0), some (.int (nI s)), some (.int p), some (.int (nI r)), some (.int q), some (.int m), some (.ref (19 + s)), some (.ref (19 + r))] [] h = some (some (.int (fd 2)), sI h 0 7 2) := by
              rw [b27_91, r_finding, rI_some, b27_96]
            rw [b27_68S _ _ _ _ _ _ _ _ (shp_s hs).1]
            by_cases k1 : ∃ a c, a + c ≤ l ∧ p = nI a ∧ m = nI c
            · obtain ⟨a, c, k1, rfl, rfl⟩ := k1
              rw [run_yes hs x1 k1 x3, rI_some, b27_76, if_neg (by decide), b27_79S _ _ _ _ _ _ _ _ (shp_s hr).1, run_no hr y1 (fun ⟨b, c', k2, k3, k4⟩ => hok ⟨a, b, c', by
                have : l < 2147483648 := by omega
                have e : c = c' ∨ ¬ c = c' := Classical.em _
                rcases e with rfl | e
                · exact k1
                · exact absurd k4 (by
                    by_cases hc' : c' < 2147483648
                    · rw [eq_nI (by omega) hc']; exact e
                    · omega), k2, rfl, k3, k4⟩) y3, rI_some, b27_88, if_neg (by decide), fin]
            · rw [run_no hs x1 (fun ⟨a, c, k2, k3, k4⟩ => k1 ⟨a, c, k2, k3, k4⟩) x3, rI_some, b27_76, if_pos rfl, fin]
          · refine Eq.trans (mpre3 _ (by rw [fI_ne (by omega)])) ?_
            have k29 : gI (sI h 0 7 2) 29 = gI h 29 := by rw [fI_ne (by omega)]
            have fin : Ev 57 111 [some (.ref 27), some (.int (nI s)), some (.int p), some (.int (nI r)), some (.int q), some (.int m), none] [] (sI h 0 7 2) = some (some (.int (fd 2)), sI (sI h 0 7 2) 27 4 2) := by
              rw [b57_111, r_finds, rI_some, b57_116]
            rw [b57_62]
            rcases int_cases p with p0 | ⟨a, ha, rfl⟩
            · rw [if_pos p0, fin]
            rw [if_neg (by rw [lt0_nI (by omega)]; exact fun q => q), b57_66]
            rcases int_cases q with q0 | ⟨b, hb, rfl⟩
            · rw [if_pos q0, fin]
            rw [if_neg (by rw [lt0_nI (by omega)]; exact fun q => q), b57_71]
            rcases int_cases m with m0 | ⟨c, hc, rfl⟩
            · rw [if_pos m0, fin]
            rw [if_neg (by rw [lt0_nI (by omega)]; exact fun q => q), b57_76, if_pos (gd4 hs), cl_nI (by omega), k29, x4, b57_88]
            by_cases k1 : l < a + c
            · rw [if_pos (by rw [lcmp_gt, sum_gt (by omega) (by omega) x1]; exact k1), fin]
            · rw [if_neg (by rw [lcmp_gt, sum_gt (by omega) (by omega) x1]; exact k1), b57_93, if_pos (gd4 hr), cl_nI (by omega), k29, y4, b57_106, if_neg, fin]
              rw [lcmp_le, sum_gt (by omega) (by omega) y1]
              exact fun k2 => hok ⟨a, b, c, by omega, by omega, rfl, rfl, rfl⟩
      · refine ⟨some (.int (fd 4)), sI h 0 7 4, sI (sI h 0 7 4) 27 4 4, ?_, ?_, inv_find i 4⟩
        · refine Eq.trans cpre2 ?_
          rw [if_neg hff, b27_62, r_finding, rI_some, b27_67]
        · refine Eq.trans (mpre2 _ (by rw [fI_ne (by omega)])) ?_
          rw [if_neg hff, b57_56, r_finds, rI_some, b57_61]
    · refine pr_of h i (r := some (.int (-2))) (h1 := h) (h2 := h) ?_ (sx_refl [] _) (by decide) ?_ (sx_refl [] _) (by decide)
      · show Ev 27 0 [some (.ref 0), some (.int (nI s)), some (.int p), some (.int y), some (.int q), some (.int m), none, none] [] h = _
        rw [b27_0, r_sheetAt hs, rA_ref, b27_5S, r_sheetAt_no hy, rA_null, b27_12NS, b27_24]
      · show Ev 57 0 [some (.ref 27), some (.int (nI s)), some (.int p), some (.int y), some (.int q), some (.int m), none] [] h = _
        rw [b57_0, r_isSheet hs, rI_some, b57_4, if_neg (by decide), b57_7, r_isSheet_no hy, rI_some, b57_11, if_neg (by decide), b57_14]
  · refine pr_of h i (r := some (.int (-2))) (h1 := h) (h2 := h) ?_ (sx_refl [] _) (by decide) ?_ (sx_refl [] _) (by decide)
    · show Ev 27 0 [some (.ref 0), some (.int x), some (.int p), some (.int y), some (.int q), some (.int m), none, none] [] h = _
      rw [b27_0, r_sheetAt_no hx, rA_null, b27_5N]
      rcases rng_s y with ⟨r, hr, rfl⟩ | hy
      · rw [r_sheetAt hr, rA_ref, b27_12SN, b27_24]
      · rw [r_sheetAt_no hy, rA_null, b27_12NN, b27_24]
    · show Ev 57 0 [some (.ref 27), some (.int x), some (.int p), some (.int y), some (.int q), some (.int m), none] [] h = _
      rw [b57_0, r_isSheet_no hx, rI_some, b57_4, if_pos rfl, b57_14]
end CP
