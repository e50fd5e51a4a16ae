/-! WRITE and READ. -/
section WR
variable {n sl ly ev per s : Nat} {P Q K : Nat → Int32} {E : Nat → Int64} {h h' h1 h2 : mH}
theorem lookedAt_ok {c i : Nat} (hc : c ≤ 40) (hi : i < c) (e : gI h 8 1 = nI c) : Rt 152 [.ref 8, .int (nI i)] h = some (some (.int (gI h 9 i)), h) := by
  show Ev 152 0 [some (.ref 8), some (.int (nI i))] [] h = _
  rw [b152_0, if_neg (by rw [lt0_nI (by omega)]; exact fun q => q), b152_4, e, if_neg (by rw [le_nI (by omega) (by omega)]; omega), b152_12, if_pos (of_eq_true (gd_nI (a := i) (N := 40) (by omega) (by omega))), cl_nI (by omega), b152_18, b152_22]
theorem write_loop (hs : s < 4) {l c w : Nat} (hl : l ≤ 60) (hc : c ≤ 40) (hwl : w ≤ l) (hwc : w ≤ c) (x1 x2 x3 : Int32) (f : Int32) (O : Nat → Int32) : ∀ (k i : Nat) (h : mH), i + k = w → gI h (19 + s) 2 = nI l → gI h (19 + s) 1 = f → gI h 8 1 = nI c → gI h 9 = O → ∃ h', Ev 28 85 [some (.ref 0), some (.int x1), some (.int x2), some (.int x3), some (.ref (19 + s)), some (.int (nI w)), some (.int (nI i))] [] h = some (some (.int (nI w)), h') ∧ Zs s h h' ∧ (∀ k, ¬ k = 23 + s → gI h' k = gI h k) ∧ gJ h' = gJ h ∧ (∀ j, j < i ∨ w ≤ j → gI h' (23 + s) j = gI h (23 + s) j) ∧ ∀ j, i ≤ j → j < w → gI h' (23 + s) j = cutf f (O j)
  | 0, i, h, hk, e1, e2, e3, e4 => by
    obtain rfl : i = w := by omega
    refine ⟨h, ?_, zs_refl s h, fun _ _ => rfl, rfl, fun _ _ => rfl, fun j h1 h2 => by omega⟩
    rw [b28_85, if_pos (by rw [le_nI (by omega) (by omega)]; omega), b28_114]
  | k + 1, i, h, hk, e1, e2, e3, e4 => by
    obtain ⟨h1, eh⟩ : ∃ h1, h1 = sI h (23 + s) i (cutf f (O i)) := ⟨_, rfl⟩
    have g : ∀ k, ¬ k = 23 + s → gI h1 k = gI h k := fun k hk => by rw [eh, fI_ne hk]
    obtain ⟨h', f1, f2, f3, f4, f5, f6⟩ := write_loop hs hl hc hwl hwc x1 x2 x3 f O k (i + 1) h1 (by omega) (by rw [g _ (by omega)]; exact e1) (by rw [g _ (by omega)]; exact e2) (by rw [g _ (by omega)]; exact e3) (by rw [g _ (by omega)]; exact e4)
    refine ⟨h', ?_, zs_trans (by rw [eh]; exact zs_sI (zs_refl s h) (Or.inr (Or.inl rfl))) f2, fun k hk => by rw [f3 k hk, g k hk], ?_, fun j hj => ?_, fun j h1 h2 => ?_⟩
    · rw [← f1, b28_85, if_neg (by rw [le_nI (by omega) (by omega)]; omega), b28_92S, lookedAt_ok hc (by omega) e3, rI_some, e4, b28_105S _ _ _ _ _ _ _ _ _ _ (shp_s hs).1, r_store hs hl (by omega) e1, e2, ← eh, rV_some, b28_108, nI_1]
    · rw [f4, eh]; funext k j; rw [gJ_sI]
    · rw [f5 j (by omega), eh, up_sI, up, if_neg (by omega)]
    · by_cases hj : j = i
      · subst hj; rw [f5 j (by omega), eh, up_sI, up, if_pos rfl]
      · exact f6 j (by omega) h2
theorem lk_le (n : Nat) (g : Nat → Int32) (pr : Nat → Int64) (al : Int64) (a : Nat) : ∀ (k : Nat) (p b : Int64) (c : Nat) (m : Bool) (o : Nat → Nat), (lkI n g pr al a k p b c m o).1 ≤ c + k
  | 0, _, _, c, _, _ => Nat.le_refl c
  | k + 1, p, b, c, m, o => by
    unfold lkI
    split
    · exact Nat.le_add_right c (k + 1)
    · have := lk_le n g pr al a k ((p &&& (ob (tG g p n).toNatClampNeg ^^^ (-1))) ||| ((pr (tG g p n).toNatClampNeg &&& al) &&& (b ^^^ (-1)))) (b ||| ((pr (tG g p n).toNatClampNeg &&& al) &&& (b ^^^ (-1)))) (c + 1) (decide ((tG g p n).toNatClampNeg = a)) (fun j => if j = c then (tG g p n).toNatClampNeg else o j)
      omega
theorem mwrite_loop (hs : s < 4) {w : Nat} (hw : w ≤ 40) (x1 x2 : Int32) (f : Int32) (O : Nat → Int32) : ∀ (k i : Nat) (h : mH), i + k = w → gI h 28 s = f → gI h 37 = O → ∃ h', Ev 113 66 [some (.ref 27), some (.int x1), some (.int x2), some (.int (nI s)), some (.int (nI w)), some (.int (nI i))] [] h = some (some (.int (nI w)), h') ∧ Zs s h h' ∧ (∀ k, ¬ k = 30 → gI h' k = gI h k) ∧ (∀ j, j < 60 * s + i ∨ 60 * s + w ≤ j → gI h' 30 j = gI h 30 j) ∧ ∀ j, i ≤ j → j < w → gI h' 30 (60 * s + j) = cutf f (O j)
  | 0, i, h, hk, e1, e2 => by
    obtain rfl : i = w := by omega
    refine ⟨h, ?_, zs_refl s h, fun _ _ => rfl, fun _ _ => rfl, fun j h1 h2 => by omega⟩
    rw [b113_66, if_pos (by rw [le_nI (by omega) (by omega)]; omega), b113_107]
  | k + 1, i, h, hk, e1, e2 => by
    obtain ⟨h1, eh⟩ : ∃ h1, h1 = sI h 30 (60 * s + i) (cutf f (O i)) := ⟨_, rfl⟩
    have g : ∀ k, ¬ k = 30 → gI h1 k = gI h k := fun k hk => by rw [eh, fI_ne hk]
    obtain ⟨h', f1, f2, f3, f5, f6⟩ := mwrite_loop hs hw x1 x2 f O k (i + 1) h1 (by omega) (by rw [g _ (by omega)]; exact e1) (by rw [g _ (by omega)]; exact e2)
    refine ⟨h', ?_, zs_trans (by rw [eh]; exact zs_sI (zs_refl s h) (Or.inr (Or.inr (Or.inr (Or.inr ⟨rfl, by omega, by omega⟩))))) f2, fun k hk => by rw [f3 k hk, g k hk], fun j hj => ?_, fun j h1 h2 => ?_⟩
    · rw [← f1, b113_66, if_neg (by rw [le_nI (by omega) (by omega)]; omega), b113_73, if_pos (gd4 hs), cl_nI (by omega), e1, ix60, b113_90, if_pos (of_eq_true (gd_nI (a := i) (N := 40) (by omega) (by omega))), cl_nI (by omega), e2, b113_97, r_cut, rI_some, b113_100, if_pos (gd240 hs (by omega)), cl_nI (by omega), ← eh, b113_101, nI_1]
    · rw [f5 j (by omega), eh, up_sI, up, if_neg (by omega)]
    · by_cases hj : j = i
      · subst hj; rw [f5 _ (by omega), eh, up_sI, up, if_pos rfl]
      · exact f6 j (by omega) h2
theorem min_nI {a b : Nat} (ha : a ≤ 60) (hb : b ≤ 60) : (if nI a < nI b then nI a else nI b) = nI (if a < b then a else b) := by
  have e : (nI a < nI b) = (a < b) := lt_nI (by omega) (by omega)
  by_cases h1 : a < b
  · rw [if_pos (by rw [e]; exact h1), if_pos h1]
  · rw [if_neg (by rw [e]; exact h1), if_neg h1]
theorem p_write (x y z : Int32) : Pr 28 113 [.int x, .int y, .int z] := by
  intro h i
  have i' := i
  obtain ⟨n, sl, ly, ev, per, P, Q, K, E, c, m, xx⟩ := i'
  have h40 := c.2.2.2.2.2.2.2.1
  have wf := c.2.2.2.2.2.2.2
  have no_c : ∀ v : Value, Ev 28 34 [some (.ref 0), some (.int x), some (.int y), some (.int z), some v, none, none] [] h = some (some (.int (-2)), h) := fun v => b28_34 _ _ _ _ _ _ _
  have pre_c : ∃ v : Value, ((∃ s, s < 4 ∧ z = nI s ∧ v = .ref (19 + s)) ∨ ((z < 0 ∨ nI 3 < z) ∧ v = .null)) ∧ Ev 28 0 [some (.ref 0), some (.int x), some (.int y), some (.int z), none, none, none] [] h = rI (Rt 125 [.ref 1, .int x] h) (fun r h1 => Ev 28 15 [some (.ref 0), some (.int x), some (.int y), some (.int z), some v, none, none] [.int r] h1) := by
    rcases rng_s z with ⟨s, hs, rfl⟩ | hz
    · refine ⟨.ref (19 + s), Or.inl ⟨s, hs, rfl, rfl⟩, ?_⟩
      rw [b28_0, r_sheetAt hs, rA_ref, b28_5S]
    · refine ⟨.null, Or.inr ⟨hz, rfl⟩, ?_⟩
      rw [b28_0, r_sheetAt_no hz, rA_null, b28_5N]
  obtain ⟨v, hv, cpre⟩ := pre_c
  rcases rng h40 x with ⟨a, ha, rfl⟩ | ⟨g1, g2⟩
  · rcases rng h40 y with ⟨b, hb, rfl⟩ | ⟨g1, g2⟩
    · rw [c_in c ha, rI_some, b28_15, if_neg (by decide), b28_18, c_in c hb, rI_some, b28_26, if_neg (by decide)] at cpre
      rcases hv with ⟨s, hs, rfl, rfl⟩ | ⟨hz, rfl⟩
      · have mpre : ∀ h1, HM h1 n sl P Q K E → Ev 113 0 [some (.ref 27), some (.int (nI a)), some (.int (nI b)), some (.int (nI s)), none, none] [] h1 = Ev 113 26 [some (.ref 27), some (.int (nI a)), some (.int (nI b)), some (.int (nI s)), none, none] [] h1 := by
          intro h1 m1
          rw [b113_0, m_in m1 ha, rI_some, b113_5, if_neg (by decide), b113_8, m_in m1 hb, rI_some, b113_13, if_neg (by decide), b113_16, r_isSheet hs, rI_some, b113_20, if_pos (by decide)]
        rw [b28_29S] at cpre
        rcases inv_xs i hs with ⟨e1, e2⟩ | ⟨l, f, x1, x2, x3, x4, x5, x6, x7⟩
        · refine ⟨some (.int (fd 1)), sI h 0 7 1, sI (sI h 0 7 1) 27 4 1, ?_, ?_, inv_find i 1⟩
          · refine Eq.trans cpre ?_
            rw [b28_37S _ _ _ _ _ _ _ (shp_s hs).1, r_lost hs e1, rI_some, b28_42, if_neg (by decide), b28_45, r_finding, rI_some, b28_50]
          · have m1 : HM (sI h 0 7 1) n sl P Q K E := hm_of m (by simp (disch := omega) only [fI_sJ, fJ_sI, fI_ne, fJ_ne, gI_sI, gJ_sJ, Nat.reduceEqDiff, eq_self, and_true, true_and, and_false, false_and, and_self, if_true, if_false, reduceIte, Nat.succ_ne_zero]) (by simp (disch := omega) only [fI_sJ, fJ_sI, fI_ne, fJ_ne, gI_sI, gJ_sJ, Nat.reduceEqDiff, eq_self, and_true, true_and, and_false, false_and, and_self, if_true, if_false, reduceIte, Nat.succ_ne_zero]) (by simp (disch := omega) only [fI_sJ, fJ_sI, fI_ne, fJ_ne, gI_sI, gJ_sJ, Nat.reduceEqDiff, eq_self, and_true, true_and, and_false, false_and, and_self, if_true, if_false, reduceIte, Nat.succ_ne_zero]) (by simp (disch := omega) only [fI_sJ, fJ_sI, fI_ne, fJ_ne, gI_sI, gJ_sJ, Nat.reduceEqDiff, eq_self, and_true, true_and, and_false, false_and, and_self, if_true, if_false, reduceIte, Nat.succ_ne_zero]) (by simp (disch := omega) only [fI_sJ, fJ_sI, fI_ne, fJ_ne, gI_sI, gJ_sJ, Nat.reduceEqDiff, eq_self, and_true, true_and, and_false, false_and, and_self, if_true, if_false, reduceIte, Nat.succ_ne_zero])
            refine Eq.trans (mpre _ m1) ?_
            rw [b113_26, if_pos (gd4 hs), cl_nI (by omega), show gI (sI h 0 7 1) 28 s = -1 from by rw [fI_ne (by omega)]; exact e2, b113_32, if_neg (by decide), b113_35, r_finds, rI_some, b113_40]
        · obtain ⟨hA, k1, k2, k3, k4, k5⟩ := r_search c ha hb false
          have hcnt : (lkA n sl P Q K (alw n sl K a false) a b).1 ≤ 40 := by
            have := lk_le n (gen sl K) (par P Q) (alw n sl K a false) a 40 (ob b &&& alw n sl K a false) (ob b &&& alw n sl K a false) 0 false (fun _ => 0)
            rw [Nat.zero_add] at this
            exact this
          generalize hcn : (lkA n sl P Q K (alw n sl K a false) a b).1 = cn at k3 k5 hcnt
          generalize hor : (lkA n sl P Q K (alw n sl K a false) a b).2.2 = od at k5
          obtain ⟨w, hw⟩ : ∃ w, w = if l < cn then l else cn := ⟨_, rfl⟩
          have hwl : w ≤ l := by rw [hw]; split <;> omega
          have hwc : w ≤ cn := by rw [hw]; split <;> omega
          have sA : ∀ k, (k < 8 ∨ 10 < k) → (∀ j, rg k j = 0) → gI hA k = gI h k := fun k _ hr => funext fun j => (k2 k j (by rw [hr j]; decide)).1
          have a19 : gI hA (19 + s) = gI h (19 + s) := sA _ (by omega) (fun j => (rg19 hs j).1)
          have a23 : gI hA (23 + s) = gI h (23 + s) := sA _ (by omega) (fun j => (rg19 hs j).2)
          have a28 : gI hA 28 = gI h 28 := sA _ (by omega) rg28
          have a29 : gI hA 29 = gI h 29 := sA _ (by omega) rg29
          have a30 : gI hA 30 = gI h 30 := sA _ (by omega) rg30
          obtain ⟨hB, b1, b2, b3, b4, b5, b6⟩ := write_loop hs x1 hcnt hwl hwc (nI a) (nI b) (nI s) (nI f) (gI hA 9) w 0 hA (by omega) (by rw [a19]; exact x3) (by rw [a19]; exact x5) k3 rfl
          have zB : Zs s h hB := zs_trans (zs_sx k2 (by decide)) b2
          have mB := zs_hm m hs zB
          obtain ⟨hC, c1, c2, c3⟩ := r_looks mB ha hb (lst := gen sl K a) (al := alw n sl K a false) (fun j hj => alw_al wf j hj)
          rw [hcn] at c1 c3
          rw [hor] at c3
          have sC : ∀ k, (∀ j, rg k j = 0) → gI hC k = gI hB k := fun k hr => funext fun j => (c2 k j (by rw [hr j]; decide)).1
          obtain ⟨hD, d1, d2, d3, d4, d5⟩ := mwrite_loop hs (w := w) (by omega) (nI a) (nI b) (nI f) (gI hC 37) w 0 hC (by omega) (by rw [sC 28 rg28, b3 28 (by omega), a28]; exact x6) rfl
          have lst : ∀ k, k = 19 + s ∨ k = 28 ∨ k = 29 → gI hD k = gI h k := by
            intro k hk
            have hr : ∀ j, rg k j = 0 := fun j => by
              rcases hk with rfl | rfl | rfl
              · exact (rg19 hs j).1
              · exact rg28 j
              · exact rg29 j
            rw [d3 k (by omega), sC k hr, b3 k (by omega), sA k (by omega) hr]
          refine ⟨some (.int (nI w)), hB, hD, ?_, ?_, ?_⟩
          · refine Eq.trans cpre ?_
            have k1' : Rt 151 [.ref 8, .ref 1, .int (nI a), .int (nI b), .int 0] h = some (none, hA) := k1
            rw [b28_37S _ _ _ _ _ _ _ (shp_s hs).1, r_notlost hs x1 x3, rI_some, b28_42, if_pos rfl, b28_51, k1', rV_some, b28_65S _ _ _ _ _ _ _ (shp_s hs).1, a19, x3, k3, b28_77S, min_nI x1 (by omega), ← hw]
            exact b1
          · refine Eq.trans (mpre hB mB) ?_
            rw [b113_26, if_pos (gd4 hs), cl_nI (by omega), b3 28 (by omega), a28, x6, b113_32, if_pos (ge0f x2), b113_41, if_pos (gd4 hs), cl_nI (by omega), b3 29 (by omega), a29, x4, b113_47, m_gen mB ha, rI_some, b113_55, c1, rI_some, b113_58, r_lesser, rI_some, min_nI x1 (by omega), ← hw, b113_61]
            exact d1
          · refine inv_sheet i hs (zs_trans zB (zs_trans (zs_sx c2 (by decide)) d2)) (Or.inr ⟨l, f, x1, x2, ?_, ?_, ?_, ?_, fun j hj => ?_⟩)
            · rw [lst _ (Or.inl rfl)]; exact x3
            · rw [lst _ (Or.inr (Or.inr rfl))]; exact x4
            · rw [lst _ (Or.inl rfl)]; exact x5
            · rw [lst _ (Or.inr (Or.inl rfl))]; exact x6
            · have k23 : gI hD (23 + s) j = gI hB (23 + s) j := by
                rw [d3 _ (by omega), sC _ (fun j => (rg19 hs j).2)]
              rw [k23]
              by_cases hjw : j < w
              · rw [d5 j (by omega) hjw, b6 j (by omega) hjw, c3 j (by omega), k5 j (by omega)]
              · rw [d4 _ (by omega), sC 30 rg30, b3 30 (by omega), a30, b5 j (by omega), a23]; exact x7 j hj
      · refine pr_of h i (r := some (.int (-2))) (h1 := h) (h2 := h) ?_ (sx_refl [] _) (by decide) ?_ (sx_refl [] _) (by decide)
        · refine Eq.trans cpre ?_
          rw [b28_29N]; exact no_c _
        · show Ev 113 0 [some (.ref 27), some (.int (nI a)), some (.int (nI b)), some (.int z), none, none] [] h = _
          rw [b113_0, m_in m ha, rI_some, b113_5, if_neg (by decide), b113_8, m_in m hb, rI_some, b113_13, if_neg (by decide), b113_16, r_isSheet_no hz, rI_some, b113_20, if_neg (by decide), b113_23]
    · refine pr_of h i (r := some (.int (-2))) (h1 := h) (h2 := h) ?_ (sx_refl [] _) (by decide) ?_ (sx_refl [] _) (by decide)
      · refine Eq.trans cpre ?_
        rw [c_in c ha, rI_some, b28_15, if_neg (by decide), b28_18, g1 _ _ _ _ _ _ c, rI_some, b28_26, if_pos rfl]; exact no_c _
      · show Ev 113 0 [some (.ref 27), some (.int (nI a)), some (.int y), some (.int z), none, none] [] h = _
        rw [b113_0, m_in m ha, rI_some, b113_5, if_neg (by decide), b113_8, g2 _ _ _ _ _ _ m, rI_some, b113_13, if_pos rfl, b113_23]
  · refine pr_of h i (r := some (.int (-2))) (h1 := h) (h2 := h) ?_ (sx_refl [] _) (by decide) ?_ (sx_refl [] _) (by decide)
    · refine Eq.trans cpre ?_
      rw [g1 _ _ _ _ _ _ c, rI_some, b28_15, if_pos rfl]; exact no_c _
    · show Ev 113 0 [some (.ref 27), some (.int x), some (.int y), some (.int z), none, none] [] h = _
      rw [b113_0, g2 _ _ _ _ _ _ m, rI_some, b113_5, if_pos rfl, b113_23]
end WR
