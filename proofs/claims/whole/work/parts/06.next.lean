/-! The step that goes on, all instructions. -/
section SNX
variable {p : Program} {l : Launch} {e : Env} {R : Room} {s : State} {m : MethodId} {args : Array Value} {below : List Frame} {meth : Method} {c : Code} {H : Heap} {locs : List Loc} {cells slots : Nat} {Q : State → Prop}
variable {D : va_G} {ad : Nat → Nat} {cA : Nat → ClassId} {A : Nat → Prop} {H0 : Heap}
variable {y pc pc' : Nat} {loc loc' : mL} {stk stk' : List Value} {h h' : mH}
theorem swi_inv {r : List Value} {x : Int32} {dflt : Int} : ∀ {qs : List (Int × Int)}, (∀ q ∈ qs, -1000 < q.1 ∧ q.1 < 1000) → swi pc loc r h x dflt qs = some (.inl (pc', loc', stk', h')) → ∃ off, Op.lookupswitch.offset qs dflt x.toInt = off ∧ jok pc off = true ∧ pc' = jmp pc off ∧ loc' = loc ∧ stk' = r ∧ h' = h
  | [], _, hs => by
    unfold swi at hs
    split at hs
    · rename_i hj; obtain ⟨h1, h2, h3, h4⟩ := nx_inv hs
      exact ⟨dflt, rfl, hj, h1, h2, h3, h4⟩
    · cases hs
  | q :: qs, hq, hs => by
    unfold swi at hs
    have hb := hq q List.mem_cons_self
    have hi : (Int32.ofInt q.1).toInt = q.1 := Int32.toInt_ofInt_of_le (by omega) (by omega)
    have e : Op.lookupswitch.offset (q :: qs) dflt x.toInt = if q.1 = x.toInt then q.2 else Op.lookupswitch.offset qs dflt x.toInt := rfl
    split at hs
    · rename_i hx
      split at hs
      · rename_i hj; obtain ⟨h1, h2, h3, h4⟩ := nx_inv hs
        exact ⟨q.2, by rw [e, if_pos (by rw [hx, hi])], hj, h1, h2, h3, h4⟩
      · cases hs
    · rename_i hx
      obtain ⟨off, h1, h2⟩ := swi_inv (fun q' h' => hq q' (List.mem_cons_of_mem _ h')) hs
      exact ⟨off, by rw [e, if_neg (fun z => hx (Int32.toInt_inj.mp (by rw [hi]; exact z.symm)))]; exact h1, h2⟩
theorem tbl_off (d k : Int) : ∀ (os : List Int) (lo : Int), ((k < lo ∨ lo + os.length ≤ k) → Op.lookupswitch.offset (tbl lo os) d k = d) ∧ (∀ (n : Nat) (o : Int), os[n]? = some o → k = lo + n → Op.lookupswitch.offset (tbl lo os) d k = o)
  | [], lo => ⟨fun _ => rfl, fun n o h => by simp at h⟩
  | o :: os, lo => by
    have ih := tbl_off d k os (lo + 1)
    have e : Op.lookupswitch.offset (tbl lo (o :: os)) d k = if lo = k then o else Op.lookupswitch.offset (tbl (lo + 1) os) d k := rfl
    refine ⟨fun h => ?_, fun n o' h hk => ?_⟩
    · have hl : ((o :: os).length : Int) = (os.length : Int) + 1 := by simp
      rw [e, if_neg (by omega)]
      exact ih.1 (by omega)
    · cases n with
      | zero =>
        have h : some o = some o' := h
        cases h
        rw [e, if_pos (by omega)]
      | succ n =>
        rw [e, if_neg (by omega)]
        exact ih.2 n o' h (by omega)
theorem tbl_in (lo : Int) : ∀ (os : List Int) (b : Int), lo ≤ b → ∀ q ∈ tbl b os, lo ≤ q.1 ∧ q.1 < b + os.length
  | [], _, _, _, h => by cases h
  | o :: os, b, hb, q, h => by
    have hl : ((o :: os).length : Int) = (os.length : Int) + 1 := by simp
    rcases List.mem_cons.mp h with rfl | h
    · exact ⟨hb, by simp only []; omega⟩
    · have := tbl_in lo os (b + 1) (by omega) q h
      omega
theorem cats_cv (ad : Nat → Nat) (r : List Value) : ((r.map (cv ad)).map fun v => v.category).sum = cats r := by
  unfold cats
  rw [List.map_map]
  congr 1
  exact List.map_congr_left fun v _ => cv_cat ad v
set_option maxHeartbeats 4000000 in
theorem ok_next (C : mCtx D cA y p R s m args c cells slots) (hA : mAd ad A H0) {i : Instr} {len : Nat} (hd : decode (md y).2.1 pc = .ok (i, len)) (hn : lok i len = true) (hs : stI y pc loc stk h i = some (.inl (pc', loc', stk', h'))) {ls : Array Slot} (hl : mloc ad ls (md y).2.2.1 loc) (hw : mWd D ad cA A H0 h H locs)
    (k : mGo D ad cA A H0 y p l e R s m args below meth c cells slots Q pc' loc' stk' h') : W p l e R s m args below meth c H locs cells slots Q (F0 m pc ls (stk.map (cv ad))) := by
  obtain ⟨hx, hb, hml, hown, hts, hK, hN, hfr, hlo, hce, hsl⟩ := id C
  cases i
  case iconst n =>
    obtain rfl : len = 1 := Nat.eq_of_beq_eq_true hn
    obtain ⟨rfl, rfl, rfl, rfl⟩ := nx_inv hs
    exact lv_iconst hx hb hd rfl (k ls H locs hl hw)
  case bipush n =>
    obtain rfl : len = 2 := Nat.eq_of_beq_eq_true hn
    obtain ⟨rfl, rfl, rfl, rfl⟩ := nx_inv hs
    exact lv_bipush hx hb hd rfl (k ls H locs hl hw)
  case sipush n =>
    obtain rfl : len = 3 := Nat.eq_of_beq_eq_true hn
    obtain ⟨rfl, rfl, rfl, rfl⟩ := nx_inv hs
    exact lv_sipush hx hb hd rfl (k ls H locs hl hw)
  case lconst n =>
    obtain rfl : len = 1 := Nat.eq_of_beq_eq_true hn
    obtain ⟨rfl, rfl, rfl, rfl⟩ := nx_inv hs
    exact lv_lconst hx hb hd rfl (k ls H locs hl hw)
  case aconst_null =>
    obtain rfl : len = 1 := Nat.eq_of_beq_eq_true hn
    obtain ⟨rfl, rfl, rfl, rfl⟩ := nx_inv hs
    exact lv_null hx hb hd (k ls H locs hl hw)
  case ldc j =>
    obtain rfl : len = 2 := Nat.eq_of_beq_eq_true hn
    change (match (lk y j).1 with | 7 => nx (pc + 2) loc (.int (lk y j).2.2.2.toInt32 :: stk) h | _ => none) = some _ at hs
    split at hs
    · rename_i hq
      obtain ⟨rfl, rfl, rfl, rfl⟩ := nx_inv hs
      have h1 := lk_ok y j (by rw [hq]; decide)
      unfold LkOK at h1
      rw [show (j, lk y j).2.1 = 7 from hq] at h1
      exact lv_ldc hx hb hown (hts _ h1) hd (k ls H locs hl hw)
    · cases hs
  case ldc2_w j =>
    obtain rfl : len = 3 := Nat.eq_of_beq_eq_true hn
    change (match (lk y j).1 with | 8 => nx (pc + 3) loc (.long (lk y j).2.2.2 :: stk) h | _ => none) = some _ at hs
    split at hs
    · rename_i hq
      obtain ⟨rfl, rfl, rfl, rfl⟩ := nx_inv hs
      have h1 := lk_ok y j (by rw [hq]; decide)
      unfold LkOK at h1
      rw [show (j, lk y j).2.1 = 8 from hq] at h1
      exact lv_ldc2 hx hb hown (hts _ h1) hd (k ls H locs hl hw)
    · cases hs
  case iload_n j =>
    obtain rfl : len = 1 := Nat.eq_of_beq_eq_true hn
    obtain ⟨x, h1, rfl, rfl, rfl, rfl⟩ := ok_ldI (y := y) (ad := ad) (ls := ls) rfl hs hl
    exact lv_iload_n hx hb hd rfl h1 (k ls H locs hl hw)
  case iload j =>
    obtain rfl : len = 2 := Nat.eq_of_beq_eq_true hn
    obtain ⟨x, h1, rfl, rfl, rfl, rfl⟩ := ok_ldI (y := y) (ad := ad) (ls := ls) rfl hs hl
    exact lv_iload hx hb hd h1 (k ls H locs hl hw)
  case lload_n j =>
    obtain rfl : len = 1 := Nat.eq_of_beq_eq_true hn
    obtain ⟨x, h1, rfl, rfl, rfl, rfl⟩ := ok_ldL (y := y) (ad := ad) (ls := ls) rfl hs hl
    exact lv_lload_n hx hb hd rfl h1 (k ls H locs hl hw)
  case lload j =>
    obtain rfl : len = 2 := Nat.eq_of_beq_eq_true hn
    obtain ⟨x, h1, rfl, rfl, rfl, rfl⟩ := ok_ldL (y := y) (ad := ad) (ls := ls) rfl hs hl
    exact lv_lload hx hb hd h1 (k ls H locs hl hw)
  case aload_n j =>
    obtain rfl : len = 1 := Nat.eq_of_beq_eq_true hn
    obtain ⟨h1, rfl, rfl, rfl⟩ := ok_ldA (y := y) (ad := ad) (ls := ls) rfl hs hl
    rcases h1 with ⟨x, h1, rfl⟩ | ⟨h1, rfl⟩
    · exact lv_aload_n hx hb hd rfl h1 (k ls H locs hl hw)
    · exact lv_aload_nN hx hb hd rfl h1 (k ls H locs hl hw)
  case aload j =>
    obtain rfl : len = 2 := Nat.eq_of_beq_eq_true hn
    obtain ⟨h1, rfl, rfl, rfl⟩ := ok_ldA (y := y) (ad := ad) (ls := ls) rfl hs hl
    rcases h1 with ⟨x, h1, rfl⟩ | ⟨h1, rfl⟩
    · exact lv_aload hx hb hd h1 (k ls H locs hl hw)
    · exact lv_aloadN hx hb hd h1 (k ls H locs hl hw)
  case istore_n j =>
    obtain rfl : len = 1 := Nat.eq_of_beq_eq_true hn
    obtain ⟨x, r, rfl, h1, rfl, rfl, rfl, rfl⟩ := ok_stoI hs
    exact lv_istore_n hx hb hd rfl (mloc_has hl) (by rw [← hl.2.2.1]; exact h1) rfl (fun ls2 hl2 => k ls2 H locs (mloc_st1 (v := .int x) hl hl2) hw)
  case lstore_n j =>
    obtain rfl : len = 1 := Nat.eq_of_beq_eq_true hn
    obtain ⟨x, r, rfl, h1, rfl, rfl, rfl, rfl⟩ := ok_stoL hs
    exact lv_lstore_n hx hb hd rfl (mloc_has hl) (by rw [← hl.2.2.1]; exact h1) rfl (fun ls2 hl2 => k ls2 H locs (mloc_st2 (v := .long x) hl hl2) hw)
  case astore_n j =>
    obtain rfl : len = 1 := Nat.eq_of_beq_eq_true hn
    obtain ⟨v, r, hv, rfl, h1, rfl, rfl, rfl, rfl⟩ := ok_stoA hs
    rcases hv with ⟨x, rfl⟩ | rfl
    · exact lv_astore_n hx hb hd rfl (mloc_has hl) (by rw [← hl.2.2.1]; exact h1) rfl (fun ls2 hl2 => k ls2 H locs (mloc_st1 (v := .ref x) hl hl2) hw)
    · exact lv_astore_nN hx hb hd rfl (mloc_has hl) (by rw [← hl.2.2.1]; exact h1) rfl (fun ls2 hl2 => k ls2 H locs (mloc_st1 (v := .null) hl hl2) hw)
  case istore j =>
    obtain rfl : len = 2 := Nat.eq_of_beq_eq_true hn
    obtain ⟨x, r, rfl, h1, rfl, rfl, rfl, rfl⟩ := ok_stoI hs
    exact lv_istore hx hb hd (mloc_has hl) (by rw [← hl.2.2.1]; exact h1) rfl (fun ls2 hl2 => k ls2 H locs (mloc_st1 (v := .int x) hl hl2) hw)
  case lstore j =>
    obtain rfl : len = 2 := Nat.eq_of_beq_eq_true hn
    obtain ⟨x, r, rfl, h1, rfl, rfl, rfl, rfl⟩ := ok_stoL hs
    exact lv_lstore hx hb hd (mloc_has hl) (by rw [← hl.2.2.1]; exact h1) rfl (fun ls2 hl2 => k ls2 H locs (mloc_st2 (v := .long x) hl hl2) hw)
  case astore j =>
    obtain rfl : len = 2 := Nat.eq_of_beq_eq_true hn
    obtain ⟨v, r, hv, rfl, h1, rfl, rfl, rfl, rfl⟩ := ok_stoA hs
    rcases hv with ⟨x, rfl⟩ | rfl
    · exact lv_astore hx hb hd (mloc_has hl) (by rw [← hl.2.2.1]; exact h1) rfl (fun ls2 hl2 => k ls2 H locs (mloc_st1 (v := .ref x) hl hl2) hw)
    · exact lv_astoreN hx hb hd (mloc_has hl) (by rw [← hl.2.2.1]; exact h1) rfl (fun ls2 hl2 => k ls2 H locs (mloc_st1 (v := .null) hl hl2) hw)
  case iinc j n =>
    obtain rfl : len = 3 := Nat.eq_of_beq_eq_true hn
    change (match lget loc j with | some (.int x) => nx (pc + 3) (st1 loc j (.int (x + Int32.ofInt n))) stk h | _ => none) = some _ at hs
    split at hs
    · rename_i x hq
      obtain ⟨rfl, rfl, rfl, rfl⟩ := nx_inv hs
      have h1 := asl_in ad loc 0 j _ hq
      rw [Nat.zero_add] at h1
      obtain ⟨a, h2⟩ := List.getElem?_of_mem h1
      exact lv_iinc (k := a) hx hb hd (mloc_has hl) h2 rfl (by rw [← hl.2.2.1]; exact lget_lt _ _ _ hq) rfl (fun ls2 hl2 => k ls2 H locs (mloc_st1 (v := .int (x + Int32.ofInt n)) hl hl2) hw)
    · cases hs
  case iadd =>
    obtain rfl : len = 1 := Nat.eq_of_beq_eq_true hn
    obtain ⟨ho, rfl, rfl, rfl⟩ := nxs_inv hs
    obtain ⟨a, b, r, rfl, rfl⟩ := op2_inv ho
    exact lv_iadd hx hb hd (k ls H locs hl hw)
  case isub =>
    obtain rfl : len = 1 := Nat.eq_of_beq_eq_true hn
    obtain ⟨ho, rfl, rfl, rfl⟩ := nxs_inv hs
    obtain ⟨a, b, r, rfl, rfl⟩ := op2_inv ho
    exact lv_isub hx hb hd (k ls H locs hl hw)
  case imul =>
    obtain rfl : len = 1 := Nat.eq_of_beq_eq_true hn
    obtain ⟨ho, rfl, rfl, rfl⟩ := nxs_inv hs
    obtain ⟨a, b, r, rfl, rfl⟩ := op2_inv ho
    exact lv_imul hx hb hd (k ls H locs hl hw)
  case iand =>
    obtain rfl : len = 1 := Nat.eq_of_beq_eq_true hn
    obtain ⟨ho, rfl, rfl, rfl⟩ := nxs_inv hs
    obtain ⟨a, b, r, rfl, rfl⟩ := op2_inv ho
    exact lv_iand hx hb hd (k ls H locs hl hw)
  case ior =>
    obtain rfl : len = 1 := Nat.eq_of_beq_eq_true hn
    obtain ⟨ho, rfl, rfl, rfl⟩ := nxs_inv hs
    obtain ⟨a, b, r, rfl, rfl⟩ := op2_inv ho
    exact lv_ior hx hb hd (k ls H locs hl hw)
  case ixor =>
    obtain rfl : len = 1 := Nat.eq_of_beq_eq_true hn
    obtain ⟨ho, rfl, rfl, rfl⟩ := nxs_inv hs
    obtain ⟨a, b, r, rfl, rfl⟩ := op2_inv ho
    exact lv_ixor hx hb hd (k ls H locs hl hw)
  case irem =>
    obtain rfl : len = 1 := Nat.eq_of_beq_eq_true hn
    change (match stk with | .int z :: .int x :: r => if z = 0 then none else nx (pc + 1) loc (.int (x - x / z * z) :: r) h | _ => none) = some _ at hs
    split at hs
    · split at hs
      · cases hs
      · rename_i hz
        obtain ⟨rfl, rfl, rfl, rfl⟩ := nx_inv hs
        exact lv_irem hx hb hd hz (k ls H locs hl hw)
    · cases hs
  case ladd =>
    obtain rfl : len = 1 := Nat.eq_of_beq_eq_true hn
    obtain ⟨ho, rfl, rfl, rfl⟩ := nxs_inv hs
    obtain ⟨a, b, r, rfl, rfl⟩ := op2L_inv ho
    exact lv_ladd hx hb hd (k ls H locs hl hw)
  case lsub =>
    obtain rfl : len = 1 := Nat.eq_of_beq_eq_true hn
    obtain ⟨ho, rfl, rfl, rfl⟩ := nxs_inv hs
    obtain ⟨a, b, r, rfl, rfl⟩ := op2L_inv ho
    exact lv_lsub hx hb hd (k ls H locs hl hw)
  case lmul =>
    obtain rfl : len = 1 := Nat.eq_of_beq_eq_true hn
    obtain ⟨ho, rfl, rfl, rfl⟩ := nxs_inv hs
    obtain ⟨a, b, r, rfl, rfl⟩ := op2L_inv ho
    exact lv_lmul hx hb hd (k ls H locs hl hw)
  case land =>
    obtain rfl : len = 1 := Nat.eq_of_beq_eq_true hn
    obtain ⟨ho, rfl, rfl, rfl⟩ := nxs_inv hs
    obtain ⟨a, b, r, rfl, rfl⟩ := op2L_inv ho
    exact lv_land hx hb hd (k ls H locs hl hw)
  case lor =>
    obtain rfl : len = 1 := Nat.eq_of_beq_eq_true hn
    obtain ⟨ho, rfl, rfl, rfl⟩ := nxs_inv hs
    obtain ⟨a, b, r, rfl, rfl⟩ := op2L_inv ho
    exact lv_lor hx hb hd (k ls H locs hl hw)
  case lxor =>
    obtain rfl : len = 1 := Nat.eq_of_beq_eq_true hn
    obtain ⟨ho, rfl, rfl, rfl⟩ := nxs_inv hs
    obtain ⟨a, b, r, rfl, rfl⟩ := op2L_inv ho
    exact lv_lxor hx hb hd (k ls H locs hl hw)
  case lshl =>
    obtain rfl : len = 1 := Nat.eq_of_beq_eq_true hn
    obtain ⟨ho, rfl, rfl, rfl⟩ := nxs_inv hs
    obtain ⟨a, b, r, rfl, rfl⟩ := opSh_inv ho
    exact lv_lshl hx hb hd rfl (k ls H locs hl hw)
  case lshr =>
    obtain rfl : len = 1 := Nat.eq_of_beq_eq_true hn
    obtain ⟨ho, rfl, rfl, rfl⟩ := nxs_inv hs
    obtain ⟨a, b, r, rfl, rfl⟩ := opSh_inv ho
    exact lv_lshr hx hb hd rfl (k ls H locs hl hw)
  case lushr =>
    obtain rfl : len = 1 := Nat.eq_of_beq_eq_true hn
    obtain ⟨ho, rfl, rfl, rfl⟩ := nxs_inv hs
    obtain ⟨a, b, r, rfl, rfl⟩ := opSh_inv ho
    exact lv_lushr hx hb hd rfl (k ls H locs hl hw)
  case lcmp =>
    obtain rfl : len = 1 := Nat.eq_of_beq_eq_true hn
    obtain ⟨ho, rfl, rfl, rfl⟩ := nxs_inv hs
    obtain ⟨a, b, r, rfl, rfl⟩ := opCmp_inv ho
    exact W.lcmp hx hb hd (k ls H locs hl hw)
  case i2l =>
    obtain rfl : len = 1 := Nat.eq_of_beq_eq_true hn
    obtain ⟨ho, rfl, rfl, rfl⟩ := nxs_inv hs
    obtain ⟨a, r, rfl, rfl⟩ := opIL_inv ho
    exact lv_i2l hx hb hd rfl (k ls H locs hl hw)
  case l2i =>
    obtain rfl : len = 1 := Nat.eq_of_beq_eq_true hn
    obtain ⟨ho, rfl, rfl, rfl⟩ := nxs_inv hs
    obtain ⟨a, r, rfl, rfl⟩ := opLI_inv ho
    exact lv_l2i hx hb hd rfl (k ls H locs hl hw)
  case i2b =>
    obtain rfl : len = 1 := Nat.eq_of_beq_eq_true hn
    obtain ⟨ho, rfl, rfl, rfl⟩ := nxs_inv hs
    obtain ⟨a, r, rfl, rfl⟩ := opI_inv ho
    exact lv_i2b hx hb hd rfl (k ls H locs hl hw)
  case i2s =>
    obtain rfl : len = 1 := Nat.eq_of_beq_eq_true hn
    obtain ⟨ho, rfl, rfl, rfl⟩ := nxs_inv hs
    obtain ⟨a, r, rfl, rfl⟩ := opI_inv ho
    exact lv_i2s hx hb hd rfl (k ls H locs hl hw)
  case dup =>
    obtain rfl : len = 1 := Nat.eq_of_beq_eq_true hn
    obtain ⟨ho, rfl, rfl, rfl⟩ := nxs_inv hs
    unfold opDup at ho
    split at ho
    · cases ho; exact lv_dup hx hb hd rfl (k ls H locs hl hw)
    · cases ho; exact lv_dup hx hb hd rfl (k ls H locs hl hw)
    · cases ho
  case dup2 =>
    obtain rfl : len = 1 := Nat.eq_of_beq_eq_true hn
    obtain ⟨ho, rfl, rfl, rfl⟩ := nxs_inv hs
    unfold opDup2 at ho
    split at ho
    · cases ho; exact lv_dup2_2 hx hb hd rfl (k ls H locs hl hw)
    · cases ho; exact lv_dup2_11 hx hb hd rfl rfl (k ls H locs hl hw)
    · cases ho; exact lv_dup2_11 hx hb hd rfl rfl (k ls H locs hl hw)
    · cases ho
  case ifCond cn off =>
    obtain rfl : len = 3 := Nat.eq_of_beq_eq_true hn
    change stIf pc loc h cn off stk = some _ at hs
    unfold stIf at hs
    split at hs
    · split at hs
      · rename_i x r _ hj
        have ht := jmp_ok hj
        have k1 : cnd cn x 0 → W p l e R s m args below meth c H locs cells slots Q (F0 m (jmp pc off) ls (r.map (cv ad))) := fun hc => by
          rcases brn_inv hs with ⟨h1, h2⟩ | ⟨h1, h2⟩
          · obtain ⟨rfl, rfl, rfl, rfl⟩ := nx_inv h2; exact k ls H locs hl hw
          · exact absurd hc h1
        have k2 : ¬ cnd cn x 0 → W p l e R s m args below meth c H locs cells slots Q (F0 m (pc + 3) ls (r.map (cv ad))) := fun hc => by
          rcases brn_inv hs with ⟨h1, h2⟩ | ⟨h1, h2⟩
          · exact absurd h1 hc
          · obtain ⟨rfl, rfl, rfl, rfl⟩ := nx_inv h2; exact k ls H locs hl hw
        cases cn
        · exact lv_if_eq hx hb hd ht k1 k2
        · exact lv_if_ne hx hb hd ht k1 (fun z => k2 (fun q => q z))
        · exact lv_if_lt hx hb hd ht k1 k2
        · exact lv_if_ge hx hb hd ht k1 k2
        · exact lv_if_gt hx hb hd ht k1 k2
        · exact lv_if_le hx hb hd ht k1 k2
      · cases hs
    · cases hs
  case if_icmp cn off =>
    obtain rfl : len = 3 := Nat.eq_of_beq_eq_true hn
    change stCmp pc loc h cn off stk = some _ at hs
    unfold stCmp at hs
    split at hs
    · split at hs
      · rename_i z x r _ hj
        have ht := jmp_ok hj
        have k1 : cnd cn x z → W p l e R s m args below meth c H locs cells slots Q (F0 m (jmp pc off) ls (r.map (cv ad))) := fun hc => by
          rcases brn_inv hs with ⟨h1, h2⟩ | ⟨h1, h2⟩
          · obtain ⟨rfl, rfl, rfl, rfl⟩ := nx_inv h2; exact k ls H locs hl hw
          · exact absurd hc h1
        have k2 : ¬ cnd cn x z → W p l e R s m args below meth c H locs cells slots Q (F0 m (pc + 3) ls (r.map (cv ad))) := fun hc => by
          rcases brn_inv hs with ⟨h1, h2⟩ | ⟨h1, h2⟩
          · exact absurd h1 hc
          · obtain ⟨rfl, rfl, rfl, rfl⟩ := nx_inv h2; exact k ls H locs hl hw
        cases cn
        · exact lv_icmp_eq hx hb hd ht k1 k2
        · exact lv_icmp_ne hx hb hd ht k1 (fun z => k2 (fun q => q z))
        · exact lv_icmp_lt hx hb hd ht k1 k2
        · exact lv_icmp_ge hx hb hd ht k1 k2
        · exact lv_icmp_gt hx hb hd ht k1 k2
        · exact lv_icmp_le hx hb hd ht k1 k2
      · cases hs
    · cases hs
  case goto off =>
    obtain rfl : len = 3 := Nat.eq_of_beq_eq_true hn
    change (match jok pc off with | true => nx (jmp pc off) loc stk h | false => none) = some _ at hs
    split at hs
    · rename_i hj
      obtain ⟨rfl, rfl, rfl, rfl⟩ := nx_inv hs
      exact lv_goto hx hb hd (jmp_ok hj) (k ls H locs hl hw)
    · cases hs
  case ifnull off =>
    obtain rfl : len = 3 := Nat.eq_of_beq_eq_true hn
    change stNull pc loc h off stk = some _ at hs
    unfold stNull at hs
    split at hs
    · split at hs
      · rename_i hj
        obtain ⟨rfl, rfl, rfl, rfl⟩ := nx_inv hs
        exact lv_ifnullN hx hb hd (jmp_ok hj) (k ls H locs hl hw)
      · cases hs
    · obtain ⟨rfl, rfl, rfl, rfl⟩ := nx_inv hs
      exact lv_ifnull hx hb hd (k ls H locs hl hw)
    · cases hs
  case ifnonnull off =>
    obtain rfl : len = 3 := Nat.eq_of_beq_eq_true hn
    change stNon pc loc h off stk = some _ at hs
    unfold stNon at hs
    split at hs
    · split at hs
      · rename_i hj
        obtain ⟨rfl, rfl, rfl, rfl⟩ := nx_inv hs
        exact lv_ifnonnull hx hb hd (jmp_ok hj) (k ls H locs hl hw)
      · cases hs
    · obtain ⟨rfl, rfl, rfl, rfl⟩ := nx_inv hs
      exact lv_ifnonnullN hx hb hd (k ls H locs hl hw)
    · cases hs
  case lookupswitch dflt ps =>
    change stSw pc loc h dflt (swok ps.toList) ps.toList stk = some _ at hs
    unfold stSw at hs
    split at hs
    · split at hs
      · rename_i x r _ hok
        unfold swok at hok
        rw [Bool.and_eq_true] at hok
        obtain ⟨off, h1, h2, rfl, rfl, rfl, rfl⟩ := swi_inv (fun q hq => by
          have := List.all_eq_true.mp hok.2 q hq
          rw [Bool.and_eq_true] at this
          exact ⟨of_decide_eq_true this.1, of_decide_eq_true this.2⟩) hs
        exact lv_lookup hx hb hd hok.1 h1 (jmp_ok h2) (k ls H locs hl hw)
      · cases hs
    · cases hs
  case tableswitch dflt lo hi offs =>
    change stSw pc loc h dflt (tok lo hi offs.toList) (tbl lo offs.toList) stk = some _ at hs
    unfold stSw at hs
    split at hs
    · split at hs
      · rename_i x r _ hok
        unfold tok at hok
        rw [Bool.and_eq_true, Bool.and_eq_true] at hok
        obtain ⟨⟨b1, b2⟩, b3⟩ := hok
        have b1 := of_decide_eq_true b1
        have b2 := of_decide_eq_true b2
        have b3 := of_decide_eq_true b3
        obtain ⟨off, h1, h2, rfl, rfl, rfl, rfl⟩ := swi_inv (fun q hq => by
          have := tbl_in lo offs.toList lo (Int.le_refl _) q hq
          omega) hs
        have ht := tbl_off dflt x.toInt offs.toList lo
        rcases Classical.em (x.toInt < lo ∨ hi < x.toInt) with ho | ho
        · rw [ht.1 (by omega)] at h1
          subst h1
          exact lv_tableOut hx hb hd ho (jmp_ok h2) (k ls H locs hl hw)
        · have hlt : (x.toInt - lo).toNat < offs.toList.length := by omega
          have h3 := ht.2 (x.toInt - lo).toNat offs.toList[(x.toInt - lo).toNat] (List.getElem?_eq_getElem hlt) (by omega)
          rw [h3] at h1
          refine lv_tableIn hx hb hd (fun z => ho (Or.inl z)) (fun z => ho (Or.inr z)) ?_ (jmp_ok h2) (k ls H locs hl hw)
          rw [← Array.getElem?_toList, List.getElem?_eq_getElem hlt, h1]
      · cases hs
    · cases hs
  case getfield j =>
    obtain rfl : len = 3 := Nat.eq_of_beq_eq_true hn
    exact ok_get C hd hs hl hw k
  case putfield j =>
    obtain rfl : len = 3 := Nat.eq_of_beq_eq_true hn
    exact ok_put C hA hd hs hl hw k
  case iaload =>
    obtain rfl : len = 1 := Nat.eq_of_beq_eq_true hn
    exact ok_arI C hd hs hl hw k
  case laload =>
    obtain rfl : len = 1 := Nat.eq_of_beq_eq_true hn
    exact ok_arL C hd hs hl hw k
  case aaload =>
    obtain rfl : len = 1 := Nat.eq_of_beq_eq_true hn
    exact ok_arA C hd hs hl hw k
  case iastore =>
    obtain rfl : len = 1 := Nat.eq_of_beq_eq_true hn
    exact ok_asI C hA hd hs hl hw k
  case lastore =>
    obtain rfl : len = 1 := Nat.eq_of_beq_eq_true hn
    exact ok_asL C hA hd hs hl hw k
  case invokestatic j =>
    obtain rfl : len = 3 := Nat.eq_of_beq_eq_true hn
    change ivS y pc loc h (lk y j) stk = some _ at hs
    have hsz : c.maxLocals = ls.size := by rw [hml, hl.1]
    unfold ivS at hs
    split at hs
    · split at hs
      · unfold cal at hs
        split at hs
        · cases hs
        · cases hs
      · cases hs
    · split at hs
      · unfold cal at hs
        split at hs
        · cases hs
        · cases hs
      · cases hs
    · rename_i hq
      split at hs
      · split at hs
        · rename_i hc
          obtain ⟨rfl, rfl, rfl, rfl⟩ := nx_inv hs
          have hc := Nat.le_of_ble_eq_true hc
          have h1 := lk_ok y j (by rw [hq]; decide)
          unfold LkOK at h1
          rw [show (j, lk y j).2.1 = 9 from hq] at h1
          have hR := md_max y j hq
          exact va_mmax hx hb hsz hown (hts _ h1) (hts _ mx_ok.1) (hts _ mx_ok.2.1) (hts _ mx_ok.2.2) (by omega) (by rw [cats_cv]; omega) hce hsl hd (k ls H locs hl hw)
        · cases hs
      · cases hs
    · rename_i hq
      split at hs
      · split at hs
        · rename_i hc
          obtain ⟨rfl, rfl, rfl, rfl⟩ := nx_inv hs
          have hc := Nat.le_of_ble_eq_true hc
          have h1 := lk_ok y j (by rw [hq]; decide)
          unfold LkOK at h1
          rw [show (j, lk y j).2.1 = 10 from hq] at h1
          have hR := md_min y j hq
          exact va_mmin hx hb hsz hown (hts _ h1) (hts _ mn_ok.1) (hts _ mn_ok.2.1) (hts _ mn_ok.2.2) (by omega) (by rw [cats_cv]; omega) hce hsl hd (k ls H locs hl hw)
        · cases hs
      · cases hs
    · rename_i hq
      split at hs
      · rename_i n dp b sp a r
        split at hs
        · rename_i hc
          have hc := Nat.le_of_ble_eq_true hc
          split at hs
          · rename_i hg
            obtain ⟨⟨g1, g2⟩, ⟨g3, g4, g5⟩, g6, g7⟩ := hg
            obtain ⟨rfl, rfl, rfl, rfl⟩ := nx_inv hs
            have h1 := lk_ok y j (by rw [hq]; decide)
            unfold LkOK at h1
            rw [show (j, lk y j).2.1 = 11 from hq] at h1
            have hR := md_acp y j hq
            refine va_copyi (D := D) (cl := vwCl) (tys := mtys cA) (ws := mwd ad cA h) (A := A) (H0 := H0) (a := ad b) (a0 := ad a) (ty := .int) hx hb hsz hown (hts _ h1) (hts _ ac_ok.1) (hts _ ac_ok.2.1) (hts _ ac_ok.2.2) hK hw.1 (mwd_D hA h) hw.2 a b 0 0 (by rw [mwd_at _ _ _ (shp_lt1 g1 (by decide)), mcell_int g1]) (by rw [mwd_at _ _ _ (shp_lt1 g2 (by decide)), mcell_int g2]) rfl rfl rfl (Int32.not_lt.mpr g3) (Int32.not_lt.mpr g4) (Int32.not_lt.mpr g5) g6 g7 (fun _ _ => rfl) (by omega) (by rw [cats_cv]; exact Nat.le_trans (Nat.add_le_add_right hc _) (Nat.le_trans (by decide) (Nat.le_trans hR.2 hlo))) hd (fun H1 locs1 hP1 _ hS1 => ?_)
            have e : va_cpy (gI h a) (gI h b) sp.toNatClampNeg dp.toNatClampNeg n.toNatClampNeg = gI (cpI h a sp.toNatClampNeg b dp.toNatClampNeg n.toNatClampNeg) b := by
              funext q
              rw [gI_cpI]
              unfold va_cpy
              simp
            rw [e, ← mcell_int (cA := cA) (ad := ad) g2, mwd_set (shp_lt1 g2 (by decide)) (fun q hq => mcell_cpI hq)] at hP1
            exact k ls H1 locs1 hl ⟨hP1, hS1⟩
          · cases hs
        · cases hs
      · cases hs
    · cases hs
  case invokevirtual j =>
    change ivV y pc loc (lk y j) stk = some _ at hs
    unfold ivV at hs
    split at hs
    · split at hs
      · split at hs
        · split at hs
          · unfold cal at hs
            split at hs
            · cases hs
            · cases hs
          · cases hs
        · cases hs
      · cases hs
    · cases hs
  case ireturn =>
    change rtI (md y).2.2.2.1 stk = some _ at hs
    unfold rtI at hs
    split at hs
    · cases hs
    · split at hs
      · cases hs
      · cases hs
    · cases hs
  case lreturn =>
    change rtL (md y).2.2.2.1 stk = some _ at hs
    unfold rtL at hs
    split at hs <;> cases hs
  case areturn =>
    change rtA (md y).2.2.2.1 stk = some _ at hs
    unfold rtA at hs
    split at hs <;> cases hs
  case return_ =>
    change rtV (md y).2.2.2.1 stk = some _ at hs
    unfold rtV at hs
    split at hs <;> cases hs
  all_goals exact nomatch (show (none : mR) = some (.inl (pc', loc', stk', h')) from hs)
end SNX
