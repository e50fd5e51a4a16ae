/-! What the mini machine says, the machine does. -/
section SND
variable {p : Program} {l : Launch} {e : Env} {R : Room} {s : State} {m : MethodId} {args : Array Value} {below : List Frame} {meth : Method} {c : Code} {H : Heap} {locs : List Loc} {cells slots : Nat} {Q : State → Prop}
variable {D : va_G} {ad : Nat → Nat} {cA : Nat → ClassId} {A : Nat → Prop} {H0 : Heap}
def mCtx (D : va_G) (cA : Nat → ClassId) (y : Nat) (p : Program) (R : Room) (s : State) (m : MethodId) (args : Array Value) (c : Code) (cells slots : Nat) : Prop :=
  p.tables.exec = Jvm.exec ∧ c.code = (md y).2.1 ∧ c.maxLocals = (md y).2.2.1 ∧ s.vm.findClass (md y).2.2.2.2.1 = some m.cls ∧ (∀ w ∈ mgood, w.before args s = true) ∧ va_K D vwCl (mtys cA) s ∧ (∀ w ∈ mnest, va_Nw w s) ∧ (md y).2.2.2.2.2.1 ≤ R.frames ∧ (md y).2.2.2.2.2.2.1 ≤ R.locals ∧ cells ≤ R.cells ∧ slots ≤ R.slots
/-- one step that goes on -/
def mGo (D : va_G) (ad : Nat → Nat) (cA : Nat → ClassId) (A : Nat → Prop) (H0 : Heap) (y : Nat) (p : Program) (l : Launch) (e : Env) (R : Room) (s : State) (m : MethodId) (args : Array Value) (below : List Frame) (meth : Method) (c : Code) (cells slots : Nat) (Q : State → Prop) (pc : Nat) (loc : mL) (stk : List Value) (h : mH) : Prop :=
  ∀ (ls : Array Slot) (H : Heap) (locs : List Loc), mloc ad ls (md y).2.2.1 loc → mWd D ad cA A H0 h H locs → W p l e R s m args below meth c H locs cells slots Q (F0 m pc ls (stk.map (cv ad)))
theorem nx_inv {pc pc' : Nat} {loc loc' : mL} {stk stk' : List Value} {h h' : mH} (hs : nx pc loc stk h = some (.inl (pc', loc', stk', h'))) : pc' = pc ∧ loc' = loc ∧ stk' = stk ∧ h' = h := by
  cases hs; exact ⟨rfl, rfl, rfl, rfl⟩
theorem nxs_inv {pc pc' : Nat} {loc loc' : mL} {o : Option (List Value)} {stk' : List Value} {h h' : mH} (hs : nxs pc loc h o = some (.inl (pc', loc', stk', h'))) : o = some stk' ∧ pc' = pc ∧ loc' = loc ∧ h' = h := by
  cases o with
  | none => cases hs
  | some stk => cases hs; exact ⟨rfl, rfl, rfl, rfl⟩
theorem op2_inv {f : Int32 → Int32 → Int32} {stk stk' : List Value} (h : op2 f stk = some stk') : ∃ x y r, stk = .int y :: .int x :: r ∧ stk' = .int (f x y) :: r := by
  unfold op2 at h
  split at h
  · cases h; exact ⟨_, _, _, rfl, rfl⟩
  · cases h
theorem op2L_inv {f : Int64 → Int64 → Int64} {stk stk' : List Value} (h : op2L f stk = some stk') : ∃ x y r, stk = .long y :: .long x :: r ∧ stk' = .long (f x y) :: r := by
  unfold op2L at h
  split at h
  · cases h; exact ⟨_, _, _, rfl, rfl⟩
  · cases h
theorem opSh_inv {f : Int64 → Int32 → Int64} {stk stk' : List Value} (h : opSh f stk = some stk') : ∃ x y r, stk = .int y :: .long x :: r ∧ stk' = .long (f x y) :: r := by
  unfold opSh at h
  split at h
  · cases h; exact ⟨_, _, _, rfl, rfl⟩
  · cases h
theorem opCmp_inv {stk stk' : List Value} (h : opCmp stk = some stk') : ∃ x y r, stk = .long y :: .long x :: r ∧ stk' = .int (lg_cmp x y) :: r := by
  unfold opCmp at h
  split at h
  · cases h; exact ⟨_, _, _, rfl, rfl⟩
  · cases h
theorem opI_inv {f : Int32 → Int32} {stk stk' : List Value} (h : opI f stk = some stk') : ∃ x r, stk = .int x :: r ∧ stk' = .int (f x) :: r := by
  unfold opI at h
  split at h
  · cases h; exact ⟨_, _, rfl, rfl⟩
  · cases h
theorem opIL_inv {f : Int32 → Int64} {stk stk' : List Value} (h : opIL f stk = some stk') : ∃ x r, stk = .int x :: r ∧ stk' = .long (f x) :: r := by
  unfold opIL at h
  split at h
  · cases h; exact ⟨_, _, rfl, rfl⟩
  · cases h
theorem opLI_inv {f : Int64 → Int32} {stk stk' : List Value} (h : opLI f stk = some stk') : ∃ x r, stk = .long x :: r ∧ stk' = .int (f x) :: r := by
  unfold opLI at h
  split at h
  · cases h; exact ⟨_, _, rfl, rfl⟩
  · cases h
theorem jmp_ok {pc : Nat} {off : Int} (h : jok pc off = true) : (pc : Int) + off = ((jmp pc off : Nat) : Int) := by
  have h1 : 0 ≤ (pc : Int) + off := of_decide_eq_true h
  unfold jmp
  omega
variable {y pc pc' : Nat} {loc loc' : mL} {stk stk' : List Value} {h h' : mH}
theorem ok_ldI {q : Nat} {o : Option Value} {i : Nat} {ls : Array Slot} (ho : lget loc i = o) (hs : ldI q loc stk h o = some (.inl (pc', loc', stk', h'))) (hl : mloc ad ls (md y).2.2.1 loc) : ∃ x : Int32, ls[i]? = some (.val (.int x)) ∧ pc' = q ∧ loc' = loc ∧ stk' = .int x :: stk ∧ h' = h := by
  unfold ldI at hs
  split at hs
  · obtain ⟨h1, h2, h3, h4⟩ := nx_inv hs
    exact ⟨_, hl.2.2.2 i _ ho, h1, h2, h3, h4⟩
  · cases hs
theorem ok_ldL {q : Nat} {o : Option Value} {i : Nat} {ls : Array Slot} (ho : lget loc i = o) (hs : ldL q loc stk h o = some (.inl (pc', loc', stk', h'))) (hl : mloc ad ls (md y).2.2.1 loc) : ∃ x : Int64, ls[i]? = some (.val (.long x)) ∧ pc' = q ∧ loc' = loc ∧ stk' = .long x :: stk ∧ h' = h := by
  unfold ldL at hs
  split at hs
  · obtain ⟨h1, h2, h3, h4⟩ := nx_inv hs
    exact ⟨_, hl.2.2.2 i _ ho, h1, h2, h3, h4⟩
  · cases hs
theorem ok_ldA {q : Nat} {o : Option Value} {i : Nat} {ls : Array Slot} (ho : lget loc i = o) (hs : ldA q loc stk h o = some (.inl (pc', loc', stk', h'))) (hl : mloc ad ls (md y).2.2.1 loc) : ((∃ x : Nat, ls[i]? = some (.val (.ref (ad x))) ∧ stk' = .ref x :: stk) ∨ (ls[i]? = some (.val .null) ∧ stk' = .null :: stk)) ∧ pc' = q ∧ loc' = loc ∧ h' = h := by
  unfold ldA at hs
  split at hs
  · obtain ⟨h1, h2, h3, h4⟩ := nx_inv hs
    exact ⟨Or.inl ⟨_, hl.2.2.2 i _ ho, h3⟩, h1, h2, h4⟩
  · obtain ⟨h1, h2, h3, h4⟩ := nx_inv hs
    exact ⟨Or.inr ⟨hl.2.2.2 i _ ho, h3⟩, h1, h2, h4⟩
  · cases hs
theorem ok_stoI {q i : Nat} (hs : stoI q i loc h stk = some (.inl (pc', loc', stk', h'))) : ∃ x r, stk = .int x :: r ∧ i < loc.length ∧ pc' = q ∧ loc' = st1 loc i (.int x) ∧ stk' = r ∧ h' = h := by
  unfold stoI at hs
  split at hs
  · split at hs
    · rename_i hb
      obtain ⟨h1, h2, h3, h4⟩ := nx_inv hs
      exact ⟨_, _, rfl, by simpa [Nat.blt_eq] using hb, h1, h2, h3, h4⟩
    · cases hs
  · cases hs
theorem ok_stoL {q i : Nat} (hs : stoL q i loc h stk = some (.inl (pc', loc', stk', h'))) : ∃ x r, stk = .long x :: r ∧ i + 1 < loc.length ∧ pc' = q ∧ loc' = st2 loc i (.long x) ∧ stk' = r ∧ h' = h := by
  unfold stoL at hs
  split at hs
  · split at hs
    · rename_i hb
      obtain ⟨h1, h2, h3, h4⟩ := nx_inv hs
      exact ⟨_, _, rfl, by simpa [Nat.blt_eq] using hb, h1, h2, h3, h4⟩
    · cases hs
  · cases hs
theorem ok_stoA {q i : Nat} (hs : stoA q i loc h stk = some (.inl (pc', loc', stk', h'))) : ∃ v r, ((∃ x, v = .ref x) ∨ v = .null) ∧ stk = v :: r ∧ i < loc.length ∧ pc' = q ∧ loc' = st1 loc i v ∧ stk' = r ∧ h' = h := by
  unfold stoA at hs
  split at hs
  · split at hs
    · rename_i hb
      obtain ⟨h1, h2, h3, h4⟩ := nx_inv hs
      exact ⟨_, _, Or.inl ⟨_, rfl⟩, rfl, by simpa [Nat.blt_eq] using hb, h1, h2, h3, h4⟩
    · cases hs
  · split at hs
    · rename_i hb
      obtain ⟨h1, h2, h3, h4⟩ := nx_inv hs
      exact ⟨_, _, Or.inr rfl, rfl, by simpa [Nat.blt_eq] using hb, h1, h2, h3, h4⟩
    · cases hs
  · cases hs
theorem brn_inv {cn : ClassFile.Cond} {x z : Int32} {a b : mR} {o : mR} (hs : brn cn x z a b = o) : (cnd cn x z ∧ a = o) ∨ (¬ cnd cn x z ∧ b = o) := by
  unfold brn at hs
  split at hs
  · rename_i hc; exact Or.inl ⟨hc, hs⟩
  · rename_i hc; exact Or.inr ⟨hc, hs⟩
theorem gfl_inv {q : Nat × Nat × Nat × Int64} (hs : gfl pc loc h q stk = some (.inl (pc', loc', stk', h'))) : ∃ k r v, stk = .ref k :: r ∧ shp k = (0, q.2.1) ∧ pc' = pc + 3 ∧ loc' = loc ∧ h' = h ∧ stk' = v :: r ∧ ((q.1 = 0 ∧ v = .int (gI h k q.2.2.1)) ∨ (q.1 = 12 ∧ v = .int (gI h k q.2.2.1)) ∨ (q.1 = 1 ∧ v = .long (gJ h k q.2.2.1)) ∨ (q.1 = 2 ∧ v = .ref (k + q.2.2.2.toNatClampNeg))) := by
  unfold gfl at hs
  split at hs
  · split at hs
    · rename_i hk
      split at hs
      · rename_i hq; obtain ⟨h1, h2, h3, h4⟩ := nx_inv hs
        exact ⟨_, _, _, rfl, hk, h1, h2, h4, h3, Or.inl ⟨hq, rfl⟩⟩
      · rename_i hq; obtain ⟨h1, h2, h3, h4⟩ := nx_inv hs
        exact ⟨_, _, _, rfl, hk, h1, h2, h4, h3, Or.inr (Or.inl ⟨hq, rfl⟩)⟩
      · rename_i hq; obtain ⟨h1, h2, h3, h4⟩ := nx_inv hs
        exact ⟨_, _, _, rfl, hk, h1, h2, h4, h3, Or.inr (Or.inr (Or.inl ⟨hq, rfl⟩))⟩
      · rename_i hq; obtain ⟨h1, h2, h3, h4⟩ := nx_inv hs
        exact ⟨_, _, _, rfl, hk, h1, h2, h4, h3, Or.inr (Or.inr (Or.inr ⟨hq, rfl⟩))⟩
      · cases hs
    · cases hs
  · cases hs
theorem pfl_inv {q : Nat × Nat × Nat × Int64} (hs : pfl pc loc h q stk = some (.inl (pc', loc', stk', h'))) : ∃ k r, shp k = (0, q.2.1) ∧ pc' = pc + 3 ∧ loc' = loc ∧ stk' = r ∧ ((∃ x, q.1 = 0 ∧ stk = .int x :: .ref k :: r ∧ h' = sI h k q.2.2.1 x) ∨ (∃ x, q.1 = 12 ∧ (x = 0 ∨ x = 1) ∧ stk = .int x :: .ref k :: r ∧ h' = sI h k q.2.2.1 x) ∨ (∃ x, q.1 = 1 ∧ stk = .long x :: .ref k :: r ∧ h' = sJ h k q.2.2.1 x)) := by
  unfold pfl at hs
  split at hs
  · split at hs
    · rename_i hk
      split at hs
      · rename_i hq; obtain ⟨h1, h2, h3, h4⟩ := nx_inv hs
        exact ⟨_, _, hk, h1, h2, h3, Or.inl ⟨_, hq, rfl, h4⟩⟩
      · rename_i hq
        split at hs
        · rename_i hx; obtain ⟨h1, h2, h3, h4⟩ := nx_inv hs
          exact ⟨_, _, hk, h1, h2, h3, Or.inr (Or.inl ⟨_, hq, hx, rfl, h4⟩)⟩
        · cases hs
      · cases hs
    · cases hs
  · split at hs
    · rename_i hk
      split at hs
      · rename_i hq; obtain ⟨h1, h2, h3, h4⟩ := nx_inv hs
        exact ⟨_, _, hk, h1, h2, h3, Or.inr (Or.inr ⟨_, hq, rfl, h4⟩)⟩
      · cases hs
    · cases hs
  · cases hs
theorem inB_in {i : Int32} {n : Nat} (hi : inB i n) : vp_in i n := by
  obtain ⟨h1, h2⟩ := hi
  unfold vp_in
  rintro (q | q)
  · exact absurd h1 (Int32.not_le.mpr q)
  · omega
/-- getfield -/
theorem ok_get (C : mCtx D cA y p R s m args c cells slots) {i : Nat} (hd : decode (md y).2.1 pc = .ok (.getfield i, 3)) (hs : gfl pc loc h (lk y i) stk = some (.inl (pc', loc', stk', h'))) {ls : Array Slot} (hl : mloc ad ls (md y).2.2.1 loc) (hw : mWd D ad cA A H0 h H locs)
    (k : mGo D ad cA A H0 y p l e R s m args below meth c cells slots Q pc' loc' stk' h') : W p l e R s m args below meth c H locs cells slots Q (F0 m pc ls (stk.map (cv ad))) := by
  obtain ⟨hx, hb, hml, hown, hts, hK, -⟩ := id C
  obtain ⟨a, r, v, rfl, hk, rfl, rfl, rfl, rfl, hv⟩ := gfl_inv hs
  have hlt := shp_lt hk (by decide)
  have he : (mwd ad cA h')[a]? = some (ad a, .inr ((lk y i).2.1, fvs ad h' a (lk y i).2.1)) := by rw [mwd_at _ _ _ hlt, mcell_obj hk]
  have go : ∀ (T : u_T) (CN : String) (N : Nat), vwCl[(lk y i).2.1]? = some (CN, T, N) → (lk y i).2.2.1 < N → Cond.fieldLink (md y).2.2.2.2.1 i (T (lk y i).2.2.1).1 (T (lk y i).2.2.1).2.1 (T (lk y i).2.2.1).2.2.1 ∈ mgood → fval ad h' a (lk y i).2.2.1 (ft (lk y i).2.1 (lk y i).2.2.1) = cv ad v → W p l e R s m args below meth c H locs cells slots Q (F0 m pc ls ((Value.ref a :: r).map (cv ad))) := by
    intro T CN N hc hj hlink hfv
    obtain ⟨c1, c2, c3, c4⟩ := cls_ok _ _ hc
    refine va_get (D := D) (cl := vwCl) (tys := mtys cA) (ws := mwd ad cA h') (a := ad a) (C := CN) (T := T) (N := N) (v := cv ad v) hx hb hts c1 hown hK hw.1 a he hc (lk y i).2.2.1 hj (hts _ hlink) (fun _ z => z) ?_ hd ?_
    · rw [fvs_at _ _ _ (by rw [c3]; exact hj), hfv]
    · exact k ls H locs hl hw
  rcases hv with ⟨hq, rfl⟩ | ⟨hq, rfl⟩ | ⟨hq, rfl⟩ | ⟨hq, rfl⟩
  · have h1 := lk_ok y i (by rw [hq]; decide)
    unfold LkOK at h1
    rw [show (i, lk y i).2.1 = 0 from hq] at h1
    obtain ⟨CN, T, N, h2, h3, h4, h5, -⟩ := h1
    exact go T CN N h2 h3 h4 (by unfold fval; rw [h5]; rfl)
  · have h1 := lk_ok y i (by rw [hq]; decide)
    unfold LkOK at h1
    rw [show (i, lk y i).2.1 = 12 from hq] at h1
    obtain ⟨CN, T, N, h2, h3, h4, h5, -⟩ := h1
    exact go T CN N h2 h3 h4 (by unfold fval; rw [h5]; rfl)
  · have h1 := lk_ok y i (by rw [hq]; decide)
    unfold LkOK at h1
    rw [show (i, lk y i).2.1 = 1 from hq] at h1
    obtain ⟨CN, T, N, h2, h3, h4, h5, -⟩ := h1
    exact go T CN N h2 h3 h4 (by unfold fval; rw [h5]; rfl)
  · have h1 := lk_ok y i (by rw [hq]; decide)
    unfold LkOK at h1
    rw [show (i, lk y i).2.1 = 2 from hq] at h1
    obtain ⟨CN, T, N, h2, h3, h4, h5⟩ := h1
    exact go T CN N h2 h3 h4 (by unfold fval; rw [h5]; rfl)
/-- putfield -/
theorem ok_put (C : mCtx D cA y p R s m args c cells slots) (hA : mAd ad A H0) {i : Nat} (hd : decode (md y).2.1 pc = .ok (.putfield i, 3)) (hs : pfl pc loc h (lk y i) stk = some (.inl (pc', loc', stk', h'))) {ls : Array Slot} (hl : mloc ad ls (md y).2.2.1 loc) (hw : mWd D ad cA A H0 h H locs)
    (k : mGo D ad cA A H0 y p l e R s m args below meth c cells slots Q pc' loc' stk' h') : W p l e R s m args below meth c H locs cells slots Q (F0 m pc ls (stk.map (cv ad))) := by
  obtain ⟨hx, hb, hml, hown, hts, hK, -⟩ := id C
  obtain ⟨a, r, hk, rfl, rfl, rfl, hv⟩ := pfl_inv hs
  have hlt := shp_lt hk (by decide)
  have he : (mwd ad cA h)[a]? = some (ad a, .inr ((lk y i).2.1, fvs ad h a (lk y i).2.1)) := by rw [mwd_at _ _ _ hlt, mcell_obj hk]
  have go : ∀ (v : Value) (ty : FieldType) (kd : Nat), fldOK (md y).2.2.2.2.1 i (lk y i).2.1 (lk y i).2.2.1 ty kd → narrow ty v = v → fits ty v = true → ((ft (lk y i).2.1 (lk y i).2.2.1).1 = kd → (lk y i).2.2.1 < ftn (lk y i).2.1 → (mwd ad cA h).set a (ad a, .inr ((lk y i).2.1, (fvs ad h a (lk y i).2.1).set (lk y i).2.2.1 v)) = mwd ad cA h') → W p l e R s m args below meth c H locs cells slots Q (F0 m pc ls (v :: Value.ref (ad a) :: stk'.map (cv ad))) := by
    intro v ty kd hf hn hfi hset
    obtain ⟨CN, T, N, h2, h3, h4, h5, h6, h7⟩ := hf
    obtain ⟨c1, c2, c3, ty0, c4⟩ := cls_ok _ _ h2
    have hj : (lk y i).2.2.1 < ftn (lk y i).2.1 := by rw [c3]; exact h3
    refine va_put (D := D) (cl := vwCl) (tys := mtys cA) (ws := mwd ad cA h) (A := A) (H0 := H0) (a := ad a) (C := CN) (T := T) (N := N) (v := v) (ty := ty) hx hb hts c1 ty0 c4 c2 hown hK hw.1 (mwd_D hA h) hw.2 a he h2 (lk y i).2.2.1 h3 (hts _ h4) (fun _ z => z) h7 h6 hn hfi (by rw [fvs_len]; exact hj) hd (fun H1 locs1 hP1 _ hS1 => ?_)
    rw [hset h5 hj] at hP1
    exact k ls H1 locs1 hl ⟨hP1, hS1⟩
  rcases hv with ⟨x, hq, rfl, rfl⟩ | ⟨x, hq, hx01, rfl, rfl⟩ | ⟨x, hq, rfl, rfl⟩
  · have h1 := lk_ok y i (by rw [hq]; decide)
    unfold LkOK at h1
    rw [show (i, lk y i).2.1 = 0 from hq] at h1
    refine go (.int x) .int 0 h1 rfl rfl (fun h5 hj => ?_)
    rw [fvs_sI hj h5, ← mcell_obj (cA := cA) hk]
    exact mwd_set hlt (fun b hb => mcell_sI hb)
  · have h1 := lk_ok y i (by rw [hq]; decide)
    unfold LkOK at h1
    rw [show (i, lk y i).2.1 = 12 from hq] at h1
    refine go (.int x) .boolean 0 h1 (by rcases hx01 with rfl | rfl <;> decide) (by rcases hx01 with rfl | rfl <;> decide) (fun h5 hj => ?_)
    rw [fvs_sI hj h5, ← mcell_obj (cA := cA) hk]
    exact mwd_set hlt (fun b hb => mcell_sI hb)
  · have h1 := lk_ok y i (by rw [hq]; decide)
    unfold LkOK at h1
    rw [show (i, lk y i).2.1 = 1 from hq] at h1
    refine go (.long x) .long 1 h1 rfl rfl (fun h5 hj => ?_)
    rw [fvs_sJ hj h5, ← mcell_obj (cA := cA) hk]
    exact mwd_set hlt (fun b hb => mcell_sJ hb)
/-- arrays -/
theorem ok_arI (C : mCtx D cA y p R s m args c cells slots) (hd : decode (md y).2.1 pc = .ok (.iaload, 1)) (hs : arI pc loc h stk = some (.inl (pc', loc', stk', h'))) {ls : Array Slot} (hl : mloc ad ls (md y).2.2.1 loc) (hw : mWd D ad cA A H0 h H locs)
    (k : mGo D ad cA A H0 y p l e R s m args below meth c cells slots Q pc' loc' stk' h') : W p l e R s m args below meth c H locs cells slots Q (F0 m pc ls (stk.map (cv ad))) := by
  obtain ⟨hx, hb, hml, hown, hts, hK, -⟩ := id C
  unfold arI at hs
  split at hs
  · rename_i i a r
    split at hs
    · rename_i hk
      split at hs
      · rename_i hi
        obtain ⟨rfl, rfl, rfl, rfl⟩ := nx_inv hs
        exact va_iald (D := D) (cl := vwCl) (tys := mtys cA) (ws := mwd ad cA h') (a := ad a) hx hb hK hw.1 a 0 (by rw [mwd_at _ _ _ (shp_lt1 hk (by decide)), mcell_int hk]) rfl (inB_in hi) hd (k ls H locs hl hw)
      · cases hs
    · cases hs
  · cases hs
theorem ok_arL (C : mCtx D cA y p R s m args c cells slots) (hd : decode (md y).2.1 pc = .ok (.laload, 1)) (hs : arL pc loc h stk = some (.inl (pc', loc', stk', h'))) {ls : Array Slot} (hl : mloc ad ls (md y).2.2.1 loc) (hw : mWd D ad cA A H0 h H locs)
    (k : mGo D ad cA A H0 y p l e R s m args below meth c cells slots Q pc' loc' stk' h') : W p l e R s m args below meth c H locs cells slots Q (F0 m pc ls (stk.map (cv ad))) := by
  obtain ⟨hx, hb, hml, hown, hts, hK, -⟩ := id C
  unfold arL at hs
  split at hs
  · rename_i i a r
    split at hs
    · rename_i hk
      split at hs
      · rename_i hi
        obtain ⟨rfl, rfl, rfl, rfl⟩ := nx_inv hs
        exact va_lald (D := D) (cl := vwCl) (tys := mtys cA) (ws := mwd ad cA h') (a := ad a) hx hb hK hw.1 a 1 (by rw [mwd_at _ _ _ (shp_lt1 hk (by decide)), mcell_long hk]) rfl (inB_in hi) hd (k ls H locs hl hw)
      · cases hs
    · cases hs
  · cases hs
theorem ok_arA (C : mCtx D cA y p R s m args c cells slots) (hd : decode (md y).2.1 pc = .ok (.aaload, 1)) (hs : arA pc loc h stk = some (.inl (pc', loc', stk', h'))) {ls : Array Slot} (hl : mloc ad ls (md y).2.2.1 loc) (hw : mWd D ad cA A H0 h H locs)
    (k : mGo D ad cA A H0 y p l e R s m args below meth c cells slots Q pc' loc' stk' h') : W p l e R s m args below meth c H locs cells slots Q (F0 m pc ls (stk.map (cv ad))) := by
  obtain ⟨hx, hb, hml, hown, hts, hK, -⟩ := id C
  unfold arA at hs
  split at hs
  · rename_i i a r
    split at hs
    · rename_i hk
      split at hs
      · rename_i hi
        obtain ⟨rfl, rfl, rfl, rfl⟩ := nx_inv hs
        exact va_aldq (D := D) (cl := vwCl) (tys := mtys cA) (ws := mwd ad cA h') (a := ad a) (f := fun j => some (ad (a + 1 + j))) hx hb hK hw.1 a 2 (by rw [mwd_at _ _ _ (shp_lt1 hk (by decide)), mcell_sheet hk]) rfl (inB_in hi) hd (k ls H locs hl hw)
      · cases hs
    · cases hs
  · cases hs
theorem ok_asI (C : mCtx D cA y p R s m args c cells slots) (hA : mAd ad A H0) (hd : decode (md y).2.1 pc = .ok (.iastore, 1)) (hs : asI pc loc h stk = some (.inl (pc', loc', stk', h'))) {ls : Array Slot} (hl : mloc ad ls (md y).2.2.1 loc) (hw : mWd D ad cA A H0 h H locs)
    (k : mGo D ad cA A H0 y p l e R s m args below meth c cells slots Q pc' loc' stk' h') : W p l e R s m args below meth c H locs cells slots Q (F0 m pc ls (stk.map (cv ad))) := by
  obtain ⟨hx, hb, hml, hown, hts, hK, -⟩ := id C
  unfold asI at hs
  split at hs
  · rename_i x i a r
    split at hs
    · rename_i hk
      split at hs
      · rename_i hi
        obtain ⟨rfl, rfl, rfl, rfl⟩ := nx_inv hs
        have hlt := shp_lt1 hk (by decide)
        refine va_iast (D := D) (cl := vwCl) (tys := mtys cA) (ws := mwd ad cA h) (A := A) (H0 := H0) (a := ad a) hx hb hK hw.1 (mwd_D hA h) hw.2 a 0 (by rw [mwd_at _ _ _ hlt, mcell_int hk]) rfl (inB_in hi) hd (fun H1 locs1 hP1 _ hS1 => ?_)
        have e : upd (gI h a) i.toNatClampNeg x = gI (sI h a i.toNatClampNeg x) a := by
          funext b
          rw [gI_sI]
          simp [upd]
        rw [e, ← mcell_int (cA := cA) (ad := ad) hk, mwd_set hlt (fun b hb => mcell_sI hb)] at hP1
        exact k ls H1 locs1 hl ⟨hP1, hS1⟩
      · cases hs
    · cases hs
  · cases hs
theorem ok_asL (C : mCtx D cA y p R s m args c cells slots) (hA : mAd ad A H0) (hd : decode (md y).2.1 pc = .ok (.lastore, 1)) (hs : asL pc loc h stk = some (.inl (pc', loc', stk', h'))) {ls : Array Slot} (hl : mloc ad ls (md y).2.2.1 loc) (hw : mWd D ad cA A H0 h H locs)
    (k : mGo D ad cA A H0 y p l e R s m args below meth c cells slots Q pc' loc' stk' h') : W p l e R s m args below meth c H locs cells slots Q (F0 m pc ls (stk.map (cv ad))) := by
  obtain ⟨hx, hb, hml, hown, hts, hK, -⟩ := id C
  unfold asL at hs
  split at hs
  · rename_i x i a r
    split at hs
    · rename_i hk
      split at hs
      · rename_i hi
        obtain ⟨rfl, rfl, rfl, rfl⟩ := nx_inv hs
        have hlt := shp_lt1 hk (by decide)
        refine va_last (D := D) (cl := vwCl) (tys := mtys cA) (ws := mwd ad cA h) (A := A) (H0 := H0) (a := ad a) hx hb hK hw.1 (mwd_D hA h) hw.2 a 1 (by rw [mwd_at _ _ _ hlt, mcell_long hk]) rfl (inB_in hi) hd (fun H1 locs1 hP1 _ hS1 => ?_)
        have e : vp_updL (gJ h a) i.toNatClampNeg x = gJ (sJ h a i.toNatClampNeg x) a := by
          funext b
          rw [gJ_sJ]
          simp [vp_updL]
        rw [e, ← mcell_long (cA := cA) (ad := ad) hk, mwd_set hlt (fun b hb => mcell_sJ hb)] at hP1
        exact k ls H1 locs1 hl ⟨hP1, hS1⟩
      · cases hs
    · cases hs
  · cases hs
end SND
