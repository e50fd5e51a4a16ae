/-! The mini machine's heap as a world of the kit's. -/
def cv (ad : Nat → Nat) : Value → Value
  | .ref k => .ref (ad k)
  | v => v
theorem cv_cat (ad : Nat → Nat) (v : Value) : (cv ad v).category = v.category := by cases v <;> rfl
def fval (ad : Nat → Nat) (h : mH) (k j : Nat) (q : Nat × Nat) : Value := match q.1 with
  | 0 => .int (gI h k j)
  | 1 => .long (gJ h k j)
  | _ => .ref (ad (k + q.2))
def fvs (ad : Nat → Nat) (h : mH) (k ci : Nat) : List Value := (List.range (ftn ci)).map fun j => fval ad h k j (ft ci j)
def mcell (ad : Nat → Nat) (cA : Nat → ClassId) (h : mH) (k : Nat) : va_E := match (shp k).1 with
  | 0 => .inr ((shp k).2, fvs ad h k (shp k).2)
  | 1 => .inl (cA 0, (shp k).2, .inl (gI h k))
  | 2 => .inl (cA 1, (shp k).2, .inr (.inl (gJ h k)))
  | _ => .inl (cA 2, (shp k).2, .inr (.inr (.inr (.inr (fun j => some (ad (k + 1 + j)))))))
def mwd (ad : Nat → Nat) (cA : Nat → ClassId) (h : mH) : va_W := (List.range 43).map fun k => (ad k, mcell ad cA h k)
def mtys (cA : Nat → ClassId) : List (ClassId × FieldType) := [(cA 0, .int), (cA 1, .long), (cA 2, .object "CommitIndex$Sheet")]
theorem mwd_at (ad : Nat → Nat) (cA : Nat → ClassId) (h : mH) {k : Nat} (hk : k < 43) : (mwd ad cA h)[k]? = some (ad k, mcell ad cA h k) := by
  unfold mwd
  rw [List.getElem?_map, List.getElem?_range hk]; rfl
theorem mwd_len (ad : Nat → Nat) (cA : Nat → ClassId) (h : mH) : (mwd ad cA h).length = 43 := by simp [mwd]
theorem shp_lt {k a b : Nat} (h : shp k = (a, b)) (ha : a ≠ 9) : k < 43 := by
  rcases Nat.lt_or_ge k 43 with q | q
  · exact q
  · exfalso
    have : shpL.length ≤ k := q
    unfold shp at h
    rw [List.getD_eq_getElem?_getD, List.getElem?_eq_none this] at h
    cases h
    exact ha rfl
theorem shp_lt1 {k a : Nat} (h : (shp k).1 = a) (ha : a ≠ 9) : k < 43 := shp_lt (a := a) (b := (shp k).2) (by rw [← h]) ha
theorem fvs_at (ad : Nat → Nat) (h : mH) (k : Nat) {ci j : Nat} (hj : j < ftn ci) : (fvs ad h k ci)[j]? = some (fval ad h k j (ft ci j)) := by
  unfold fvs
  rw [List.getElem?_map, List.getElem?_range hj]; rfl
theorem fvs_len (ad : Nat → Nat) (h : mH) (k ci : Nat) : (fvs ad h k ci).length = ftn ci := by simp [fvs]
theorem mwd_set {ad : Nat → Nat} {cA : Nat → ClassId} {h h' : mH} {k : Nat} (hk : k < 43) (hne : ∀ a, a ≠ k → mcell ad cA h' a = mcell ad cA h a) : (mwd ad cA h).set k (ad k, mcell ad cA h' k) = mwd ad cA h' := by
  apply List.ext_getElem?
  intro a
  by_cases ha : a = k
  · subst ha
    rw [List.getElem?_set_self (by rw [mwd_len]; exact hk), mwd_at _ _ _ hk]
  · rw [List.getElem?_set_ne (Ne.symm ha)]
    rcases Nat.lt_or_ge a 43 with q | q
    · rw [mwd_at _ _ _ q, mwd_at _ _ _ q, hne a ha]
    · rw [List.getElem?_eq_none (by rw [mwd_len]; exact q), List.getElem?_eq_none (by rw [mwd_len]; exact q)]
theorem fval_sI {ad : Nat → Nat} {h : mH} {k j : Nat} {x : Int32} {a b : Nat} {q : Nat × Nat} (hn : ¬ (a = k ∧ b = j)) : fval ad (sI h k j x) a b q = fval ad h a b q := by
  unfold fval
  rw [gI_else hn, gJ_sI]
theorem fval_sJ {ad : Nat → Nat} {h : mH} {k j : Nat} {x : Int64} {a b : Nat} {q : Nat × Nat} (hn : ¬ (a = k ∧ b = j)) : fval ad (sJ h k j x) a b q = fval ad h a b q := by
  unfold fval
  rw [gJ_else hn, gI_sJ]
theorem mcell_sI {ad : Nat → Nat} {cA : Nat → ClassId} {h : mH} {k j : Nat} {x : Int32} {a : Nat} (hn : a ≠ k) : mcell ad cA (sI h k j x) a = mcell ad cA h a := by
  have e1 : gI (sI h k j x) a = gI h a := funext fun b => gI_else (fun q => hn q.1)
  have e2 : gJ (sI h k j x) a = gJ h a := rfl
  have e3 : ∀ ci, fvs ad (sI h k j x) a ci = fvs ad h a ci := fun ci => by
    unfold fvs
    exact List.map_congr_left fun b _ => fval_sI (fun q => hn q.1)
  unfold mcell
  rw [e1, e2, e3]
theorem mcell_sJ {ad : Nat → Nat} {cA : Nat → ClassId} {h : mH} {k j : Nat} {x : Int64} {a : Nat} (hn : a ≠ k) : mcell ad cA (sJ h k j x) a = mcell ad cA h a := by
  have e1 : gJ (sJ h k j x) a = gJ h a := funext fun b => gJ_else (fun q => hn q.1)
  have e2 : gI (sJ h k j x) a = gI h a := rfl
  have e3 : ∀ ci, fvs ad (sJ h k j x) a ci = fvs ad h a ci := fun ci => by
    unfold fvs
    exact List.map_congr_left fun b _ => fval_sJ (fun q => hn q.1)
  unfold mcell
  rw [e1, e2, e3]
theorem mcell_cpI {ad : Nat → Nat} {cA : Nat → ClassId} {h : mH} {k sp l dp n a : Nat} (hn : a ≠ l) : mcell ad cA (cpI h k sp l dp n) a = mcell ad cA h a := by
  have e1 : gI (cpI h k sp l dp n) a = gI h a := funext fun b => by rw [gI_cpI, if_neg (fun q => hn q.1)]
  have e2 : gJ (cpI h k sp l dp n) a = gJ h a := rfl
  have e3 : ∀ ci, fvs ad (cpI h k sp l dp n) a ci = fvs ad h a ci := fun ci => by
    unfold fvs
    refine List.map_congr_left fun b _ => ?_
    unfold fval
    rw [e1, e2]
  unfold mcell
  rw [e1, e2, e3]
theorem mcell_obj {ad : Nat → Nat} {cA : Nat → ClassId} {h : mH} {k ci : Nat} (hk : shp k = (0, ci)) : mcell ad cA h k = .inr (ci, fvs ad h k ci) := by
  unfold mcell; rw [hk]; rfl
theorem mcell_int {ad : Nat → Nat} {cA : Nat → ClassId} {h : mH} {k : Nat} (hk : (shp k).1 = 1) : mcell ad cA h k = .inl (cA 0, (shp k).2, .inl (gI h k)) := by
  unfold mcell; rw [hk]; rfl
theorem mcell_long {ad : Nat → Nat} {cA : Nat → ClassId} {h : mH} {k : Nat} (hk : (shp k).1 = 2) : mcell ad cA h k = .inl (cA 1, (shp k).2, .inr (.inl (gJ h k))) := by
  unfold mcell; rw [hk]; rfl
theorem mcell_sheet {ad : Nat → Nat} {cA : Nat → ClassId} {h : mH} {k : Nat} (hk : (shp k).1 = 3) : mcell ad cA h k = .inl (cA 2, (shp k).2, .inr (.inr (.inr (.inr (fun j => some (ad (k + 1 + j))))))) := by
  unfold mcell; rw [hk]; rfl
theorem fvs_sI {ad : Nat → Nat} {h : mH} {k ci j : Nat} {x : Int32} (hj : j < ftn ci) (hf : (ft ci j).1 = 0) : (fvs ad h k ci).set j (.int x) = fvs ad (sI h k j x) k ci := by
  apply List.ext_getElem?
  intro a
  by_cases ha : a = j
  · subst ha
    rw [List.getElem?_set_self (by rw [fvs_len]; exact hj), fvs_at _ _ _ hj]
    unfold fval; rw [hf]
    show _ = some (Value.int (gI (sI h k a x) k a))
    rw [gI_same]
  · rw [List.getElem?_set_ne (Ne.symm ha)]
    rcases Nat.lt_or_ge a (ftn ci) with q | q
    · rw [fvs_at _ _ _ q, fvs_at _ _ _ q, fval_sI (fun z => ha z.2)]
    · rw [List.getElem?_eq_none (by rw [fvs_len]; exact q), List.getElem?_eq_none (by rw [fvs_len]; exact q)]
theorem fvs_sJ {ad : Nat → Nat} {h : mH} {k ci j : Nat} {x : Int64} (hj : j < ftn ci) (hf : (ft ci j).1 = 1) : (fvs ad h k ci).set j (.long x) = fvs ad (sJ h k j x) k ci := by
  apply List.ext_getElem?
  intro a
  by_cases ha : a = j
  · subst ha
    rw [List.getElem?_set_self (by rw [fvs_len]; exact hj), fvs_at _ _ _ hj]
    unfold fval; rw [hf]
    show _ = some (Value.long (gJ (sJ h k a x) k a))
    rw [gJ_same]
  · rw [List.getElem?_set_ne (Ne.symm ha)]
    rcases Nat.lt_or_ge a (ftn ci) with q | q
    · rw [fvs_at _ _ _ q, fvs_at _ _ _ q, fval_sJ (fun z => ha z.2)]
    · rw [List.getElem?_eq_none (by rw [fvs_len]; exact q), List.getElem?_eq_none (by rw [fvs_len]; exact q)]
/-- where the places lie -/
def mAd (ad : Nat → Nat) (A : Nat → Prop) (H0 : Heap) : Prop := (∀ i j, i < 43 → j < 43 → ad i = ad j → i = j) ∧ (∀ k, k < 43 → A (ad k)) ∧ ∀ q : Nat, H0.size ≤ q → A q
theorem mwd_D {ad : Nat → Nat} {cA : Nat → ClassId} {A : Nat → Prop} {H0 : Heap} (hA : mAd ad A H0) (h : mH) : va_D A (mwd ad cA h) := by
  have key : ∀ (k : Nat) (q : Nat × va_E), (mwd ad cA h)[k]? = some q → k < 43 ∧ q.1 = ad k := by
    intro k q hq
    have hk : k < 43 := by
      have := (List.getElem?_eq_some_iff.mp hq).1
      rwa [mwd_len] at this
    rw [mwd_at _ _ _ hk] at hq
    cases hq
    exact ⟨hk, rfl⟩
  refine ⟨fun i j p q hi hj hpq => ?_, fun k q hk => ?_⟩
  · obtain ⟨h1, h2⟩ := key i p hi
    obtain ⟨h3, h4⟩ := key j q hj
    exact hA.1 i j h1 h3 (by rw [← h2, ← h4]; exact hpq)
  · obtain ⟨h1, h2⟩ := key k q hk
    rw [h2]; exact hA.2.1 k h1
def mWd (D : va_G) (ad : Nat → Nat) (cA : Nat → ClassId) (A : Nat → Prop) (H0 : Heap) (h : mH) (H : Heap) (locs : List Loc) : Prop := va_P D vwCl (mwd ad cA h) H ∧ va_S A H0 H locs
/-- locals -/
def mloc (ad : Nat → Nat) (ls : Array Slot) (nL : Nat) (loc : mL) : Prop := ls.size = nL ∧ lv_wf ls ∧ loc.length = nL ∧ ∀ (i : Nat) (v : Value), lget loc i = some v → ls[i]? = some (.val (cv ad v))
def asl (ad : Nat → Nat) : Nat → mL → List (Nat × Value)
  | _, [] => []
  | n, some v :: os => (n, cv ad v) :: asl ad (n + 1) os
  | n, none :: os => asl ad (n + 1) os
theorem asl_in (ad : Nat → Nat) : ∀ (loc : mL) (n j : Nat) (w : Value), lget loc j = some w → (n + j, cv ad w) ∈ asl ad n loc
  | [], _, _, _, h => by simp [lget] at h
  | o :: os, n, 0, w, h => by
    have h : o = some w := h
    subst h
    exact List.mem_cons_self
  | o :: os, n, j + 1, w, h => by
    have ih := asl_in ad os (n + 1) j w h
    rw [show n + (j + 1) = n + 1 + j by omega]
    cases o with
    | none => exact ih
    | some v => exact List.mem_cons_of_mem _ ih
theorem asl_of (ad : Nat → Nat) : ∀ (loc : mL) (n : Nat) (q : Nat × Value), q ∈ asl ad n loc → ∃ j w, lget loc j = some w ∧ q = (n + j, cv ad w)
  | [], _, _, h => by cases h
  | none :: os, n, q, h => by
    obtain ⟨j, w, h1, h2⟩ := asl_of ad os (n + 1) q h
    exact ⟨j + 1, w, h1, by rw [h2, show n + (j + 1) = n + 1 + j by omega]⟩
  | some v :: os, n, q, h => by
    rcases List.mem_cons.mp h with rfl | h
    · exact ⟨0, v, rfl, rfl⟩
    · obtain ⟨j, w, h1, h2⟩ := asl_of ad os (n + 1) q h
      exact ⟨j + 1, w, h1, by rw [h2, show n + (j + 1) = n + 1 + j by omega]⟩
theorem mloc_has {ad : Nat → Nat} {ls : Array Slot} {nL : Nat} {loc : mL} (h : mloc ad ls nL loc) : lv_has ls nL (asl ad 0 loc) := by
  refine ⟨h.1, h.2.1, fun q hq => ?_⟩
  obtain ⟨j, w, h1, h2⟩ := asl_of ad loc 0 q hq
  rw [h2, Nat.zero_add]
  exact h.2.2.2 j w h1
theorem st1_len : ∀ (loc : mL) (i : Nat) (v : Value), (st1 loc i v).length = loc.length
  | [], _, _ => rfl
  | _ :: _, 0, _ => rfl
  | _ :: os, i + 1, v => by simp [st1, st1_len os i v]
theorem st2_len : ∀ (loc : mL) (i : Nat) (v : Value), (st2 loc i v).length = loc.length
  | [], _, _ => rfl
  | [_], 0, _ => rfl
  | _ :: _ :: _, 0, _ => rfl
  | _ :: os, i + 1, v => by simp [st2, st2_len os i v]
theorem kil_some {o : Option Value} {w : Value} (h : kil o = some w) : o = some w ∧ w.category ≠ 2 := by
  cases o with
  | none => cases h
  | some v => cases v <;> first | (cases h; done) | (cases h; exact ⟨rfl, by simp [Value.category]⟩)
theorem st1_get : ∀ (loc : mL) (i : Nat) (v : Value) (j : Nat) (w : Value), lget (st1 loc i v) j = some w → (j = i ∧ w = v) ∨ (j ≠ i ∧ lget loc j = some w ∧ ¬ (j + 1 = i ∧ w.category = 2))
  | [], _, _, _, _, h => by simp [st1, lget] at h
  | o :: os, 0, v, 0, w, h => by
    have h : some v = some w := h
    cases h
    exact Or.inl ⟨rfl, rfl⟩
  | o :: os, 0, v, j + 1, w, h => Or.inr ⟨by omega, h, by omega⟩
  | o :: os, i + 1, v, 0, w, h => by
    cases i with
    | zero =>
      have h : kil o = some w := h
      obtain ⟨h1, h2⟩ := kil_some h
      exact Or.inr ⟨by omega, h1, fun q => h2 q.2⟩
    | succ i => exact Or.inr ⟨by omega, h, by omega⟩
  | o :: os, i + 1, v, j + 1, w, h => by
    have h : lget (st1 os i v) j = some w := h
    rcases st1_get os i v j w h with ⟨h1, h2⟩ | ⟨h1, h2, h3⟩
    · exact Or.inl ⟨by omega, h2⟩
    · exact Or.inr ⟨by omega, h2, fun q => h3 ⟨by omega, q.2⟩⟩
theorem st2_get : ∀ (loc : mL) (i : Nat) (v : Value) (j : Nat) (w : Value), lget (st2 loc i v) j = some w → (j = i ∧ w = v) ∨ (j ≠ i ∧ j ≠ i + 1 ∧ lget loc j = some w ∧ ¬ (j + 1 = i ∧ w.category = 2))
  | [], _, _, _, _, h => by simp [st2, lget] at h
  | o :: os, 0, v, 0, w, h => by
    have h : some v = some w := h
    cases h
    exact Or.inl ⟨rfl, rfl⟩
  | [o], 0, v, j + 1, w, h => by simp [st2, lget] at h
  | o :: o2 :: os, 0, v, 1, w, h => by simp [st2, lget] at h
  | o :: o2 :: os, 0, v, j + 2, w, h => Or.inr ⟨by omega, by omega, h, by omega⟩
  | o :: os, i + 1, v, 0, w, h => by
    cases i with
    | zero =>
      have h : kil o = some w := h
      obtain ⟨h1, h2⟩ := kil_some h
      exact Or.inr ⟨by omega, by omega, h1, fun q => h2 q.2⟩
    | succ i => exact Or.inr ⟨by omega, by omega, h, by omega⟩
  | o :: os, i + 1, v, j + 1, w, h => by
    have h : lget (st2 os i v) j = some w := h
    rcases st2_get os i v j w h with ⟨h1, h2⟩ | ⟨h1, h4, h2, h3⟩
    · exact Or.inl ⟨by omega, h2⟩
    · exact Or.inr ⟨by omega, by omega, h2, fun q => h3 ⟨by omega, q.2⟩⟩
theorem mloc_st1 {ad : Nat → Nat} {ls ls' : Array Slot} {nL : Nat} {loc : mL} {i : Nat} {v : Value} (h : mloc ad ls nL loc) (h' : lv_has ls' nL ((i, cv ad v) :: (asl ad 0 loc).filter (fun q => !(q.1 == i) && !(q.1 + 1 == i && q.2.category == 2)))) : mloc ad ls' nL (st1 loc i v) := by
  refine ⟨h'.1, h'.2.1, by rw [st1_len]; exact h.2.2.1, fun j w hj => ?_⟩
  rcases st1_get loc i v j w hj with ⟨h1, h2⟩ | ⟨h1, h2, h3⟩
  · subst h1; subst h2
    exact h'.2.2 (j, cv ad w) List.mem_cons_self
  · refine h'.2.2 (j, cv ad w) (List.mem_cons_of_mem _ (List.mem_filter.mpr ⟨by have := asl_in ad loc 0 j w h2; rwa [Nat.zero_add] at this, ?_⟩))
    simp only [cv_cat]
    rcases Nat.decEq (j + 1) i with q | q
    · simp [h1, q]
    · have h4 : ¬ w.category = 2 := fun z => h3 ⟨q, z⟩
      simp [h1, h4]
theorem mloc_st2 {ad : Nat → Nat} {ls ls' : Array Slot} {nL : Nat} {loc : mL} {i : Nat} {v : Value} (h : mloc ad ls nL loc) (h' : lv_has ls' nL ((i, cv ad v) :: (asl ad 0 loc).filter (fun q => !(q.1 == i) && (!(q.1 == i + 1) && !(q.1 + 1 == i && q.2.category == 2))))) : mloc ad ls' nL (st2 loc i v) := by
  refine ⟨h'.1, h'.2.1, by rw [st2_len]; exact h.2.2.1, fun j w hj => ?_⟩
  rcases st2_get loc i v j w hj with ⟨h1, h2⟩ | ⟨h1, h5, h2, h3⟩
  · subst h1; subst h2
    exact h'.2.2 (j, cv ad w) List.mem_cons_self
  · refine h'.2.2 (j, cv ad w) (List.mem_cons_of_mem _ (List.mem_filter.mpr ⟨by have := asl_in ad loc 0 j w h2; rwa [Nat.zero_add] at this, ?_⟩))
    simp only [cv_cat]
    rcases Nat.decEq (j + 1) i with q | q
    · simp [h1, h5, q]
    · have h4 : ¬ w.category = 2 := fun z => h3 ⟨q, z⟩
      simp [h1, h5, h4]
theorem lget_lt : ∀ (loc : mL) (i : Nat) (v : Value), lget loc i = some v → i < loc.length
  | [], _, _, h => by simp [lget] at h
  | _ :: _, 0, _, _ => by simp
  | _ :: os, i + 1, v, h => by
    have := lget_lt os i v h
    simp only [List.length_cons]; omega
/-- the entry's locals -/
theorem ents_get (ad : Nat → Nat) : ∀ (as : List Value) (i : Nat) (v : Value), lget (ents as) i = some v → (lg_sl (as.map (cv ad)))[i]? = some (.val (cv ad v))
  | [], _, _, h => by simp [ents, lget] at h
  | a :: as, i, v, h => by
    have ih := ents_get ad as
    have key : ∀ w : Value, w.category ≠ 2 → lg_sl (w :: as.map (cv ad)) = .val w :: lg_sl (as.map (cv ad)) := fun w hw => by simp [lg_sl, hw]
    have key2 : ∀ w : Value, w.category = 2 → lg_sl (w :: as.map (cv ad)) = .val w :: .second :: lg_sl (as.map (cv ad)) := fun w hw => by simp [lg_sl, hw]
    rw [List.map_cons]
    cases a with
    | long x =>
      rw [key2 (cv ad (.long x)) rfl]
      match i, h with
      | 0, h => have h : some (Value.long x) = some v := h; cases h; rfl
      | 1, h => simp [ents, lget] at h
      | i + 2, h => exact ih i v h
    | double x =>
      rw [key2 (cv ad (.double x)) rfl]
      match i, h with
      | 0, h => have h : some (Value.double x) = some v := h; cases h; rfl
      | 1, h => simp [ents, lget] at h
      | i + 2, h => exact ih i v h
    | int x =>
      rw [key (cv ad (.int x)) (by simp [cv, Value.category])]
      match i, h with
      | 0, h => have h : some (Value.int x) = some v := h; cases h; rfl
      | i + 1, h => exact ih i v h
    | float x =>
      rw [key (cv ad (.float x)) (by simp [cv, Value.category])]
      match i, h with
      | 0, h => have h : some (Value.float x) = some v := h; cases h; rfl
      | i + 1, h => exact ih i v h
    | null =>
      rw [key (cv ad .null) (by simp [cv, Value.category])]
      match i, h with
      | 0, h => have h : some Value.null = some v := h; cases h; rfl
      | i + 1, h => exact ih i v h
    | ref x =>
      rw [key (cv ad (.ref x)) (by simp [cv, Value.category])]
      match i, h with
      | 0, h => have h : some (Value.ref x) = some v := h; cases h; rfl
      | i + 1, h => exact ih i v h
    | retAddr x =>
      rw [key (cv ad (.retAddr x)) (by simp [cv, Value.category])]
      match i, h with
      | 0, h => have h : some (Value.retAddr x) = some v := h; cases h; rfl
      | i + 1, h => exact ih i v h
theorem lget_app : ∀ (a b : mL) (i : Nat) (v : Value), lget (a ++ b) i = some v → (lget a i = some v) ∨ (a.length ≤ i ∧ lget b (i - a.length) = some v)
  | [], b, i, v, h => Or.inr ⟨by simp, by simpa using h⟩
  | o :: os, b, 0, v, h => Or.inl h
  | o :: os, b, i + 1, v, h => by
    rcases lget_app os b i v h with h1 | ⟨h1, h2⟩
    · exact Or.inl h1
    · exact Or.inr ⟨by simp only [List.length_cons]; omega, by rw [show i + 1 - (o :: os).length = i - os.length by simp only [List.length_cons]; omega]; exact h2⟩
theorem lget_none : ∀ (n i : Nat) (v : Value), ¬ lget (List.replicate n none) i = some v
  | 0, _, _, h => by simp [lget] at h
  | n + 1, 0, v, h => by simp [List.replicate_succ, lget] at h
  | n + 1, i + 1, v, h => lget_none n i v (by simpa [List.replicate_succ, lget] using h)
theorem ents_len (ad : Nat → Nat) : ∀ as : List Value, (ents as).length = wds as ∧ (lg_sl (as.map (cv ad))).length = wds as
  | [] => ⟨rfl, rfl⟩
  | a :: as => by
    have ih := ents_len ad as
    have key : ∀ w : Value, w.category ≠ 2 → (lg_sl (w :: as.map (cv ad))).length = wds as + 1 := fun w hw => by
      rw [← ih.2]; simp [lg_sl, hw]
    have key2 : ∀ w : Value, w.category = 2 → (lg_sl (w :: as.map (cv ad))).length = wds as + 2 := fun w hw => by
      rw [← ih.2]; simp [lg_sl, hw]
    rw [List.map_cons]
    cases a <;> first
      | exact ⟨by simp [ents, wds, ih.1], key2 _ rfl⟩
      | exact ⟨by simp [ents, wds, ih.1], key _ (by simp [cv, Value.category])⟩
theorem mloc_ent (ad : Nat → Nat) (y : Nat) (as : List Value) (hw : wds as ≤ (md y).2.2.1) : mloc ad ((lg_sl (as.map (cv ad)) ++ List.replicate ((md y).2.2.1 - (lg_sl (as.map (cv ad))).length) Slot.unset).toArray) (md y).2.2.1 (ent y as) := by
  have hl := ents_len ad as
  have h0 := lv_entry (as.map (cv ad)) (n := (md y).2.2.1) (by rw [hl.2]; exact hw)
  refine ⟨h0.1, h0.2.1, ?_, fun i v hi => ?_⟩
  · simp only [ent, List.length_append, List.length_replicate, hl.1]; omega
  · rcases lget_app _ _ i v hi with h1 | ⟨h1, h2⟩
    · have h2 := ents_get ad as i v h1
      have h3 : i < (lg_sl (as.map (cv ad))).length := (List.getElem?_eq_some_iff.mp h2).1
      rw [List.getElem?_toArray, List.getElem?_append_left h3]
      exact h2
    · exact absurd h2 (lget_none _ _ _)
