/-! The world at the start, place by place. -/
theorem arrV_eq (cI : ClassId) (N : Nat) (f g : Nat → Value) (h : ∀ j, j < N → f j = g j) : arrV cI N f = arrV cI N g := by
  have e : (fun j : Fin N => f j.val) = fun j : Fin N => g j.val := funext fun j => h j.val j.isLt
  unfold arrV
  rw [e]
theorem ad_row (ws : va_W) {i : Nat} (hi : i < ws.length) : ∃ e, ws[i]? = some ((ws.map Prod.fst).getD i 0, e) := by
  refine ⟨ws[i].2, ?_⟩
  rw [List.getElem?_eq_getElem hi, List.getD_eq_getElem?_getD, List.getElem?_map, List.getElem?_eq_getElem hi]
  rfl
theorem cl0 : (0 : Int32).toNatClampNeg = 0 := by decide
theorem cl1 : (1 : Int32).toNatClampNeg = 1 := by decide
theorem cl2 : (2 : Int32).toNatClampNeg = 2 := by decide
theorem cl3 : (3 : Int32).toNatClampNeg = 3 := by decide
def wl0 (cA : Nat → ClassId) (a b q1 q2 q3 q4 q5 q6 q7 q8 q9 q10 q11 q12 q13 q14 q15 q16 q17 q18 q19 q20 q21 q22 q23 q24 q25 q26 r1 r2 r3 r4 r5 r6 r7 r8 r9 r10 r11 r12 r13 r14 r15 : Nat) : va_W := [(a, .inr (7, [.ref q1, .ref q8, .ref q10, .ref q11, .ref q14, .ref q15, .ref q18, .int 0])), (q1, .inr (1, [.ref q2, .ref q3, .ref q4, .ref q5, .ref q6, .ref q7, .int 0, .int 0, .int 0])), (q2, .inl (cA 0, 40, .inl (fun _ => 0))), (q3, .inl (cA 0, 40, .inl (fun _ => 0))), (q4, .inl (cA 0, 40, .inl (fun _ => 0))), (q5, .inl (cA 0, 40, .inl (fun _ => 0))), (q6, .inl (cA 1, 40, .inr (.inl (fun _ => 0)))), (q7, .inl (cA 0, 40, .inl (fun _ => 0))), (q8, .inr (3, [.ref q9, .int 0, .int 0])), (q9, .inl (cA 0, 40, .inl (fun _ => 0))), (q10, .inr (4, [.long 0, .long 0, .long 0, .long 0, .long 0, .long 0, .int 0])), (q11, .inr (5, [.ref q12, .ref q13])), (q12, .inl (cA 1, 40, .inr (.inl (fun _ => 0)))), (q13, .inl (cA 0, 40, .inl (fun _ => 0))), (q14, .inr (2, [.int 4, .int 0, .int 0, .long 0])), (q15, .inr (0, [.long 0, .long 0, .int 2, .int 0, .ref q16, .ref q17, .int 0, .int 0, .long 0, .long 0, .long 0, .long 0])), (q16, .inl (cA 0, 40, .inl (fun _ => 0))), (q17, .inl (cA 0, 40, .inl (fun _ => 0))), (q18, .inl (cA 2, 4, .inr (.inr (.inr (.inr (va_up (va_up (va_up (va_up (fun _ => none) (0 : Int32).toNatClampNeg (some q19)) (1 : Int32).toNatClampNeg (some q21)) (2 : Int32).toNatClampNeg (some q23)) (3 : Int32).toNatClampNeg (some q25))))))), (q19, .inr (6, [.ref q20, .int 0, .int (-1)])), (q21, .inr (6, [.ref q22, .int 0, .int (-1)])), (q23, .inr (6, [.ref q24, .int 0, .int (-1)])), (q25, .inr (6, [.ref q26, .int 0, .int (-1)])), (q20, .inl (cA 0, 60, .inl (fun _ => 0))), (q22, .inl (cA 0, 60, .inl (fun _ => 0))), (q24, .inl (cA 0, 60, .inl (fun _ => 0))), (q26, .inl (cA 0, 60, .inl (fun _ => 0))), (b, .inr (8, [.ref r1, .ref r2, .ref r3, .ref r4, .int 0, .int 0, .ref r5, .ref r6, .ref r7, .ref r8, .int 0, .int 0, .ref r9, .int 4, .int 2, .int 0, .long 0, .long 0, .ref r10, .int 0, .ref r11, .ref r12, .int 0, .int 0, .ref r13, .ref r14, .ref r15, .long 0, .long 0, .long 0, .long 0])), (r1, .inl (cA 0, 4, .inl (upd (upd (upd (upd (fun _ => 0) (0 : Int32).toNatClampNeg (-1)) (1 : Int32).toNatClampNeg (-1)) (2 : Int32).toNatClampNeg (-1)) (3 : Int32).toNatClampNeg (-1)))), (r2, .inl (cA 0, 4, .inl (fun _ => 0))), (r3, .inl (cA 0, 240, .inl (fun _ => 0))), (r4, .inl (cA 0, 60, .inl (fun _ => 0))), (r5, .inl (cA 0, 40, .inl (fun _ => 0))), (r6, .inl (cA 0, 40, .inl (fun _ => 0))), (r7, .inl (cA 0, 40, .inl (fun _ => 0))), (r8, .inl (cA 0, 40, .inl (fun _ => 0))), (r9, .inl (cA 0, 40, .inl (fun _ => 0))), (r10, .inl (cA 0, 40, .inl (fun _ => 0))), (r11, .inl (cA 1, 40, .inr (.inl (fun _ => 0)))), (r12, .inl (cA 0, 40, .inl (fun _ => 0))), (r13, .inl (cA 0, 40, .inl (fun _ => 0))), (r14, .inl (cA 0, 40, .inl (fun _ => 0))), (r15, .inl (cA 0, 40, .inl (fun _ => 0)))]
def adl (a b q1 q2 q3 q4 q5 q6 q7 q8 q9 q10 q11 q12 q13 q14 q15 q16 q17 q18 q19 q20 q21 q22 q23 q24 q25 q26 r1 r2 r3 r4 r5 r6 r7 r8 r9 r10 r11 r12 r13 r14 r15 : Nat) : List Nat := [a, q1, q2, q3, q4, q5, q6, q7, q8, q9, q10, q11, q12, q13, q14, q15, q16, q17, q18, q19, q21, q23, q25, q20, q22, q24, q26, b, r1, r2, r3, r4, r5, r6, r7, r8, r9, r10, r11, r12, r13, r14, r15]
theorem wl0_ad (cA : Nat → ClassId) (a b q1 q2 q3 q4 q5 q6 q7 q8 q9 q10 q11 q12 q13 q14 q15 q16 q17 q18 q19 q20 q21 q22 q23 q24 q25 q26 r1 r2 r3 r4 r5 r6 r7 r8 r9 r10 r11 r12 r13 r14 r15 : Nat) : (wl0 cA a b q1 q2 q3 q4 q5 q6 q7 q8 q9 q10 q11 q12 q13 q14 q15 q16 q17 q18 q19 q20 q21 q22 q23 q24 q25 q26 r1 r2 r3 r4 r5 r6 r7 r8 r9 r10 r11 r12 r13 r14 r15).map Prod.fst = adl a b q1 q2 q3 q4 q5 q6 q7 q8 q9 q10 q11 q12 q13 q14 q15 q16 q17 q18 q19 q20 q21 q22 q23 q24 q25 q26 r1 r2 r3 r4 r5 r6 r7 r8 r9 r10 r11 r12 r13 r14 r15 := rfl
set_option maxHeartbeats 4000000 in
set_option maxRecDepth 100000 in
theorem wl_P {D : va_G} {cA : Nat → ClassId} {H : Heap} (a b q1 q2 q3 q4 q5 q6 q7 q8 q9 q10 q11 q12 q13 q14 q15 q16 q17 q18 q19 q20 q21 q22 q23 q24 q25 q26 r1 r2 r3 r4 r5 r6 r7 r8 r9 r10 r11 r12 r13 r14 r15 : Nat) (hP : va_P D vwCl (wl0 cA a b q1 q2 q3 q4 q5 q6 q7 q8 q9 q10 q11 q12 q13 q14 q15 q16 q17 q18 q19 q20 q21 q22 q23 q24 q25 q26 r1 r2 r3 r4 r5 r6 r7 r8 r9 r10 r11 r12 r13 r14 r15) H) : va_P D vwCl (mwd (fun k => (adl a b q1 q2 q3 q4 q5 q6 q7 q8 q9 q10 q11 q12 q13 q14 q15 q16 q17 q18 q19 q20 q21 q22 q23 q24 q25 q26 r1 r2 r3 r4 r5 r6 r7 r8 r9 r10 r11 r12 r13 r14 r15).getD k 0) cA h00) H := by
  intro k q hq
  have hk : k < 43 := by
    have := (List.getElem?_eq_some_iff.mp hq).1
    rwa [mwd_len] at this
  rw [mwd_at _ _ _ hk] at hq
  cases hq
  match k, hk with
  | 0, _ => exact hP 0 _ rfl
  | 1, _ => exact hP 1 _ rfl
  | 2, _ => exact hP 2 _ rfl
  | 3, _ => exact hP 3 _ rfl
  | 4, _ => exact hP 4 _ rfl
  | 5, _ => exact hP 5 _ rfl
  | 6, _ => exact hP 6 _ rfl
  | 7, _ => exact hP 7 _ rfl
  | 8, _ => exact hP 8 _ rfl
  | 9, _ => exact hP 9 _ rfl
  | 10, _ => exact hP 10 _ rfl
  | 11, _ => exact hP 11 _ rfl
  | 12, _ => exact hP 12 _ rfl
  | 13, _ => exact hP 13 _ rfl
  | 14, _ => exact hP 14 _ rfl
  | 15, _ => exact hP 15 _ rfl
  | 16, _ => exact hP 16 _ rfl
  | 17, _ => exact hP 17 _ rfl
  | 18, _ =>
    have h : H[q18]? = some (arrV (cA 2) 4 (fun j => va_rf ((va_up (va_up (va_up (va_up (fun _ => none) (0 : Int32).toNatClampNeg (some q19)) (1 : Int32).toNatClampNeg (some q21)) (2 : Int32).toNatClampNeg (some q23)) (3 : Int32).toNatClampNeg (some q25)) j))) := hP 18 _ rfl
    have e := arrV_eq (cA 2) 4 (fun j => va_rf ((va_up (va_up (va_up (va_up (fun _ => none) (0 : Int32).toNatClampNeg (some q19)) (1 : Int32).toNatClampNeg (some q21)) (2 : Int32).toNatClampNeg (some q23)) (3 : Int32).toNatClampNeg (some q25)) j)) (fun j => va_rf (some ((adl a b q1 q2 q3 q4 q5 q6 q7 q8 q9 q10 q11 q12 q13 q14 q15 q16 q17 q18 q19 q20 q21 q22 q23 q24 q25 q26 r1 r2 r3 r4 r5 r6 r7 r8 r9 r10 r11 r12 r13 r14 r15).getD (18 + 1 + j) 0))) (fun j hj => match j, hj with
      | 0, _ => by show va_rf ((va_up (va_up (va_up (va_up (fun _ => none) (0 : Int32).toNatClampNeg (some q19)) (1 : Int32).toNatClampNeg (some q21)) (2 : Int32).toNatClampNeg (some q23)) (3 : Int32).toNatClampNeg (some q25)) 0) = va_rf (some q19); simp [va_up, cl0, cl1, cl2, cl3]
      | 1, _ => by show va_rf ((va_up (va_up (va_up (va_up (fun _ => none) (0 : Int32).toNatClampNeg (some q19)) (1 : Int32).toNatClampNeg (some q21)) (2 : Int32).toNatClampNeg (some q23)) (3 : Int32).toNatClampNeg (some q25)) 1) = va_rf (some q21); simp [va_up, cl0, cl1, cl2, cl3]
      | 2, _ => by show va_rf ((va_up (va_up (va_up (va_up (fun _ => none) (0 : Int32).toNatClampNeg (some q19)) (1 : Int32).toNatClampNeg (some q21)) (2 : Int32).toNatClampNeg (some q23)) (3 : Int32).toNatClampNeg (some q25)) 2) = va_rf (some q23); simp [va_up, cl0, cl1, cl2, cl3]
      | 3, _ => by show va_rf ((va_up (va_up (va_up (va_up (fun _ => none) (0 : Int32).toNatClampNeg (some q19)) (1 : Int32).toNatClampNeg (some q21)) (2 : Int32).toNatClampNeg (some q23)) (3 : Int32).toNatClampNeg (some q25)) 3) = va_rf (some q25); simp [va_up, cl0, cl1, cl2, cl3]
      | n + 4, h => absurd h (by omega))
    exact h.trans (congrArg some e)
  | 19, _ => exact hP 19 _ rfl
  | 20, _ => exact hP 20 _ rfl
  | 21, _ => exact hP 21 _ rfl
  | 22, _ => exact hP 22 _ rfl
  | 23, _ => exact hP 23 _ rfl
  | 24, _ => exact hP 24 _ rfl
  | 25, _ => exact hP 25 _ rfl
  | 26, _ => exact hP 26 _ rfl
  | 27, _ => exact hP 27 _ rfl
  | 28, _ =>
    have h : H[r1]? = some (arrV (cA 0) 4 (fun j => .int ((upd (upd (upd (upd (fun _ => 0) (0 : Int32).toNatClampNeg (-1)) (1 : Int32).toNatClampNeg (-1)) (2 : Int32).toNatClampNeg (-1)) (3 : Int32).toNatClampNeg (-1)) j))) := hP 28 _ rfl
    have e := arrV_eq (cA 0) 4 (fun j => .int ((upd (upd (upd (upd (fun _ => 0) (0 : Int32).toNatClampNeg (-1)) (1 : Int32).toNatClampNeg (-1)) (2 : Int32).toNatClampNeg (-1)) (3 : Int32).toNatClampNeg (-1)) j)) (fun j => .int (gI h00 28 j)) (fun j hj => match j, hj with
      | 0, _ => by show Value.int ((upd (upd (upd (upd (fun _ => 0) (0 : Int32).toNatClampNeg (-1)) (1 : Int32).toNatClampNeg (-1)) (2 : Int32).toNatClampNeg (-1)) (3 : Int32).toNatClampNeg (-1)) 0) = Value.int (-1); simp [upd, cl0, cl1, cl2, cl3]
      | 1, _ => by show Value.int ((upd (upd (upd (upd (fun _ => 0) (0 : Int32).toNatClampNeg (-1)) (1 : Int32).toNatClampNeg (-1)) (2 : Int32).toNatClampNeg (-1)) (3 : Int32).toNatClampNeg (-1)) 1) = Value.int (-1); simp [upd, cl0, cl1, cl2, cl3]
      | 2, _ => by show Value.int ((upd (upd (upd (upd (fun _ => 0) (0 : Int32).toNatClampNeg (-1)) (1 : Int32).toNatClampNeg (-1)) (2 : Int32).toNatClampNeg (-1)) (3 : Int32).toNatClampNeg (-1)) 2) = Value.int (-1); simp [upd, cl0, cl1, cl2, cl3]
      | 3, _ => by show Value.int ((upd (upd (upd (upd (fun _ => 0) (0 : Int32).toNatClampNeg (-1)) (1 : Int32).toNatClampNeg (-1)) (2 : Int32).toNatClampNeg (-1)) (3 : Int32).toNatClampNeg (-1)) 3) = Value.int (-1); simp [upd, cl0, cl1, cl2, cl3]
      | n + 4, h => absurd h (by omega))
    exact h.trans (congrArg some e)
  | 29, _ => exact hP 29 _ rfl
  | 30, _ => exact hP 30 _ rfl
  | 31, _ => exact hP 31 _ rfl
  | 32, _ => exact hP 32 _ rfl
  | 33, _ => exact hP 33 _ rfl
  | 34, _ => exact hP 34 _ rfl
  | 35, _ => exact hP 35 _ rfl
  | 36, _ => exact hP 36 _ rfl
  | 37, _ => exact hP 37 _ rfl
  | 38, _ => exact hP 38 _ rfl
  | 39, _ => exact hP 39 _ rfl
  | 40, _ => exact hP 40 _ rfl
  | 41, _ => exact hP 41 _ rfl
  | 42, _ => exact hP 42 _ rfl
  | n + 43, h => exact absurd h (by omega)
theorem start_wd {D : va_G} {cA : Nat → ClassId} {A : Nat → Prop} {H0 H : Heap} {locs : List Loc} {a b : Nat} {cs1 cs2 : va_W} (h7 : kX7 cA a cs1) (h8 : kX8 cA b cs2) (hw : kw D A [] (cs1 ++ cs2) H0 H locs) (hA : ∀ q, H0.size ≤ q → A q) : ∃ ad : Nat → Nat, mAd ad A H0 ∧ ad 0 = a ∧ ad 27 = b ∧ mWd D ad cA A H0 h00 H locs := by
  obtain ⟨q1, q2, q3, q4, q5, q6, q7, q8, q9, q10, q11, q12, q13, q14, q15, q16, q17, q18, q19, q20, q21, q22, q23, q24, q25, q26, rfl⟩ := h7
  obtain ⟨r1, r2, r3, r4, r5, r6, r7, r8, r9, r10, r11, r12, r13, r14, r15, rfl⟩ := h8
  obtain ⟨hP, hD, hS⟩ := hw
  have hP1 := hP.sub (ws' := wl0 cA a b q1 q2 q3 q4 q5 q6 q7 q8 q9 q10 q11 q12 q13 q14 q15 q16 q17 q18 q19 q20 q21 q22 q23 q24 q25 q26 r1 r2 r3 r4 r5 r6 r7 r8 r9 r10 r11 r12 r13 r14 r15) [0, 1, 2, 3, 4, 5, 6, 7, 8, 9, 10, 11, 12, 13, 14, 15, 16, 17, 18, 19, 21, 23, 25, 20, 22, 24, 26, 27, 28, 29, 30, 31, 32, 33, 34, 35, 36, 37, 38, 39, 40, 41, 42] rfl
  have hD1 := hD.sub (ws' := wl0 cA a b q1 q2 q3 q4 q5 q6 q7 q8 q9 q10 q11 q12 q13 q14 q15 q16 q17 q18 q19 q20 q21 q22 q23 q24 q25 q26 r1 r2 r3 r4 r5 r6 r7 r8 r9 r10 r11 r12 r13 r14 r15) [0, 1, 2, 3, 4, 5, 6, 7, 8, 9, 10, 11, 12, 13, 14, 15, 16, 17, 18, 19, 21, 23, 25, 20, 22, 24, 26, 27, 28, 29, 30, 31, 32, 33, 34, 35, 36, 37, 38, 39, 40, 41, 42] (by decide) rfl
  refine ⟨fun k => (adl a b q1 q2 q3 q4 q5 q6 q7 q8 q9 q10 q11 q12 q13 q14 q15 q16 q17 q18 q19 q20 q21 q22 q23 q24 q25 q26 r1 r2 r3 r4 r5 r6 r7 r8 r9 r10 r11 r12 r13 r14 r15).getD k 0, ⟨fun i j hi hj hij => ?_, fun k hk => ?_, hA⟩, rfl, rfl, wl_P a b q1 q2 q3 q4 q5 q6 q7 q8 q9 q10 q11 q12 q13 q14 q15 q16 q17 q18 q19 q20 q21 q22 q23 q24 q25 q26 r1 r2 r3 r4 r5 r6 r7 r8 r9 r10 r11 r12 r13 r14 r15 hP1, hS⟩
  · obtain ⟨e1, h1⟩ := ad_row (wl0 cA a b q1 q2 q3 q4 q5 q6 q7 q8 q9 q10 q11 q12 q13 q14 q15 q16 q17 q18 q19 q20 q21 q22 q23 q24 q25 q26 r1 r2 r3 r4 r5 r6 r7 r8 r9 r10 r11 r12 r13 r14 r15) (i := i) hi
    obtain ⟨e2, h2⟩ := ad_row (wl0 cA a b q1 q2 q3 q4 q5 q6 q7 q8 q9 q10 q11 q12 q13 q14 q15 q16 q17 q18 q19 q20 q21 q22 q23 q24 q25 q26 r1 r2 r3 r4 r5 r6 r7 r8 r9 r10 r11 r12 r13 r14 r15) (i := j) hj
    rw [wl0_ad] at h1 h2
    exact hD1.1 i j _ _ h1 h2 hij
  · obtain ⟨e1, h1⟩ := ad_row (wl0 cA a b q1 q2 q3 q4 q5 q6 q7 q8 q9 q10 q11 q12 q13 q14 q15 q16 q17 q18 q19 q20 q21 q22 q23 q24 q25 q26 r1 r2 r3 r4 r5 r6 r7 r8 r9 r10 r11 r12 r13 r14 r15) (i := k) hk
    rw [wl0_ad] at h1
    exact hD1.2 k _ h1
