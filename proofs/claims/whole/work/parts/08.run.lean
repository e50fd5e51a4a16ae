/-! The run as a whole: what the mini machine comes to is a contract of the machine. -/
theorem cal_no {y y' pc : Nat} {loc : mL} {as r : List Value} {v : Option Value} : ¬ cal y y' pc loc as r = some (.inr (.inr v)) := by
  intro hs
  unfold cal at hs
  split at hs <;> cases hs
theorem ivS_no {y pc : Nat} {loc : mL} {h : mH} {q : Nat × Nat × Nat × Int64} {stk : List Value} {v : Option Value} : ¬ ivS y pc loc h q stk = some (.inr (.inr v)) := by
  intro hs
  unfold ivS at hs
  split at hs
  · split at hs
    · exact cal_no hs
    · cases hs
  · split at hs
    · exact cal_no hs
    · cases hs
  · split at hs
    · split at hs <;> cases hs
    · cases hs
  · split at hs
    · split at hs <;> cases hs
    · cases hs
  · split at hs
    · split at hs
      · split at hs <;> cases hs
      · cases hs
    · cases hs
  · cases hs
theorem ivV_no {y pc : Nat} {loc : mL} {q : Nat × Nat × Nat × Int64} {stk : List Value} {v : Option Value} : ¬ ivV y pc loc q stk = some (.inr (.inr v)) := by
  intro hs
  unfold ivV at hs
  split at hs
  · split at hs
    · split at hs
      · split at hs
        · exact cal_no hs
        · cases hs
      · cases hs
    · cases hs
  · cases hs
section SRN
variable {p : Program} {l : Launch} {e : Env} {R : Room} {s : State} {m : MethodId} {args : Array Value} {below : List Frame} {meth : Method} {c : Code} {H : Heap} {locs : List Loc} {cells slots : Nat} {Q : State → Prop}
variable {D : va_G} {ad : Nat → Nat} {cA : Nat → ClassId} {A : Nat → Prop} {H0 : Heap}
variable {y pc pc' : Nat} {loc loc' : mL} {stk stk' : List Value} {h h' : mH}
theorem toList_cv (ad : Nat → Nat) (v : Option Value) (r : List Value) : (v.map (cv ad)).toList ++ r.map (cv ad) = (v.toList ++ r).map (cv ad) := by
  cases v <;> rfl
theorem ok_call (C : mCtx D cA y p R s m args c cells slots) (hA : mAd ad A H0) {i : Instr} {len : Nat} (hd : decode (md y).2.1 pc = .ok (i, len)) (hn : lok i len = true) {y' : Nat} {as r : List Value} (hs : stI y pc loc stk h i = some (.inr (.inl (y', as, pc', loc', r)))) {v : Option Value} (hM : mMet l D ad cA y' as h v h') {ls : Array Slot} (hl : mloc ad ls (md y).2.2.1 loc) (hw : mWd D ad cA A H0 h H locs)
    (k : mGo D ad cA A H0 y p l e R s m args below meth c cells slots Q pc' loc' (v.toList ++ r) h') : W p l e R s m args below meth c H locs cells slots Q (F0 m pc ls (stk.map (cv ad))) := by
  obtain ⟨hx, hb, hml, hown, hts, hK, hN, hfr, hlo, hce, hsl⟩ := id C
  obtain ⟨rfl, rfl, hf1, hl1, hc1, hw1, hi⟩ := stI_call hs
  obtain ⟨ok1, ⟨ok2, ok3, ok4, ok5, ok6⟩, ok7⟩ := md_ok y'
  have hR : (mRm y').frames + 1 ≤ R.frames ∧ 8 + ((md y').2.2.1 + 11) + (mRm y').locals ≤ R.locals := ⟨by show (md y').2.2.2.2.2.1 + 1 ≤ R.frames; omega, by show 8 + ((md y').2.2.1 + 11) + (md y').2.2.2.2.2.2.1 ≤ R.locals; omega⟩
  have hfit : cells + 0 ≤ R.cells ∧ slots + 0 ≤ R.slots := ⟨hce, hsl⟩
  have kk : ∀ (H1 : Heap) (locs1 : List Loc), va_P D vwCl (mwd ad cA h') H1 → va_S A H0 H1 locs1 → W p l e R s m args below meth c H1 locs1 cells slots Q (F0 m (pc + 3) ls ((v.map (cv ad)).toList ++ r.map (cv ad))) := by
    intro H1 locs1 hP1 hS1
    rw [toList_cv]
    exact k ls H1 locs1 hl ⟨hP1, hS1⟩
  rcases hi with ⟨j, rfl, hln, rfl, hq⟩ | ⟨j, a, as', rfl, rfl, hln, rfl, hq, rfl, hsh⟩
  · obtain rfl : len = 3 := Nat.eq_of_beq_eq_true hn
    have hst : ((as.reverse ++ r).map (cv ad)) = (as.map (cv ad)).reverse ++ r.map (cv ad) := by rw [List.map_append, List.map_reverse]
    rcases hq with ⟨hq, rfl⟩ | ⟨hq, rfl⟩
    · have h1 := lk_ok y j (by rw [hq]; decide)
      unfold LkOK at h1
      rw [show (j, lk y j).2.1 = 3 from hq] at h1
      obtain ⟨g1, g2, g3⟩ := h1
      refine m_call (v := v) (h' := h') hA (va_runS (As := as.map (cv ad)) (rest := r.map (cv ad)) (n := (md (lk y j).2.1).2.2.2.2.2.2.2.1) (bytes := (md (lk y j).2.1).2.1) (maxL := (md (lk y j).2.1).2.2.1) (ret := (md (lk y j).2.1).2.2.2.1) (nL := (md y).2.2.1) (Ts := mgood) (own := (md y).2.2.2.2.1) ⟨hx, hb, hml, hown, hts⟩ (hM H.size) ⟨callB_of (ws' := mgood) _ hts (mws_good _) rfl rfl rfl (hts _ g2) (hts _ g1) ⟨ok3, ok4, ok5⟩ hR, hts _ g3⟩ ⟨mPc_blind _ _ _ _ _ _, mPc_of hw.1 hK hN⟩ rfl (by rw [List.length_map]; exact hln) hl.1 hst (lv_room (by rw [cats_cv]; exact hc1)) hd hfit) hw.2 kk
    · have h1 := lk_ok y j (by rw [hq]; decide)
      unfold LkOK at h1
      rw [show (j, lk y j).2.1 = 5 from hq] at h1
      obtain ⟨g1, g2, g3⟩ := h1
      refine m_call (v := v) (h' := h') hA (va_runSN (As := as.map (cv ad)) (rest := r.map (cv ad)) (n := (md (lk y j).2.1).2.2.2.2.2.2.2.1) (bytes := (md (lk y j).2.1).2.1) (maxL := (md (lk y j).2.1).2.2.1) (ret := (md (lk y j).2.1).2.2.2.1) (nL := (md y).2.2.1) (Ts := mgood) (own := (md y).2.2.2.2.1) ⟨hx, hb, hml, hown, hts⟩ (hM H.size) ⟨va_cnB (ws' := mgood) _ hts (mws_good _) rfl rfl rfl (hN _ g1) (hts _ g2) ⟨ok3, ok4, ok5⟩ hR, hts _ g3, trivial⟩ ⟨mPc_blind _ _ _ _ _ _, mPc_of hw.1 hK hN⟩ rfl (by rw [List.length_map]; exact hln) hl.1 hst (lv_room (by rw [cats_cv]; exact hc1)) hd hfit) hw.2 kk
  · obtain rfl : len = 3 := Nat.eq_of_beq_eq_true hn
    have hst : ((as'.reverse ++ Value.ref a :: r).map (cv ad)) = (as'.map (cv ad)).reverse ++ .ref (ad a) :: r.map (cv ad) := by rw [List.map_append, List.map_reverse]; rfl
    have h1 := lk_ok y j (by rw [hq]; decide)
    unfold LkOK at h1
    rw [show (j, lk y j).2.1 = 4 from hq] at h1
    obtain ⟨g1, g2, g3, g4, T, N, g5⟩ := h1
    have hrec := va_recv (q0 := a) (a := ad a) (ci := (lk y j).2.2.1) hK hw.1 g5 (by rw [mwd_at _ _ _ (shp_lt hsh (by decide)), mcell_obj hsh])
    refine m_call (v := v) (h' := h') hA (va_runV (b := ad a) (C := (md (lk y j).2.1).1.cls) (As := as'.map (cv ad)) (rest := r.map (cv ad)) (n := (md (lk y j).2.1).2.2.2.2.2.2.2.1) (bytes := (md (lk y j).2.1).2.1) (maxL := (md (lk y j).2.1).2.2.1) (ret := (md (lk y j).2.1).2.2.2.1) (nL := (md y).2.2.1) (Ts := mgood) (own := (md y).2.2.2.2.1) ⟨hx, hb, hml, hown, hts⟩ (hM H.size) ⟨callB_of (ws' := mgood) _ hts (mws_good _) rfl rfl rfl (hts _ g2) (hts _ g1) ⟨ok3, ok4, ok5⟩ hR, hts _ g3, hts _ g4⟩ ⟨mPc_blind _ _ _ _ _ _, hrec, mPc_of (as := .ref a :: as') hw.1 hK hN⟩ rfl (by rw [List.length_map]; exact hln) hl.1 hst (lv_room (by rw [cats_cv]; exact hc1)) hd hfit) hw.2 kk
/-- where a method ends: at an instruction that ends it, with what is answered on the stack -/
def mEnd (y : Nat) (h : mH) (r : Option Value) (pc : Nat) (stk : List Value) : Prop := ∃ (loc : mL) (i : Instr) (len : Nat), decode (md y).2.1 pc = .ok (i, len) ∧ lok i len = true ∧ stI y pc loc stk h i = some (.inr (.inr r))
theorem stp_inv {q : (Nat × mL × List Value × mH) ⊕ (Nat × List Value × Nat × mL × List Value) ⊕ Option Value} (hs : stp y pc loc stk h = some q) : ∃ i len, decode (md y).2.1 pc = .ok (i, len) ∧ lok i len = true ∧ stI y pc loc stk h i = some q := by
  unfold stp at hs
  split at hs
  · rename_i i n hd
    split at hs
    · rename_i hl
      exact ⟨i, n, hd, hl, hs⟩
    · cases hs
  · cases hs
theorem narrow_b {x : Int32} (hx : x = 0 ∨ x = 1) : narrow .boolean (.int x) = .int x := by rcases hx with rfl | rfl <;> decide
theorem mEnd_ret {ls : Array Slot} {r : Option Value} {free : Addr → Prop} {Qc : Array Value → State → Outcome → State → Prop} (hE : mEnd y h r pc stk) (hx : p.tables.exec = Jvm.exec) (hb : c.code = (md y).2.1) (hr : meth.sig.returnType = (md y).2.2.2.1) (hlocks : meth.locks = false) (hq : ∀ t : State, t.heap = H → s.WarmedH t.vm → Qc args s (.returned (r.map (cv ad))) t) (hf : ∀ q ∈ locs, free q.base) : W p l e R s m args below meth c H locs cells slots (MQ below Qc args s cells slots free) (F0 m pc ls (stk.map (cv ad))) := by
  obtain ⟨loc, i, len, hd, hn, hs⟩ := hE
  cases i
  case ireturn =>
    obtain rfl : len = 1 := Nat.eq_of_beq_eq_true hn
    change rtI (md y).2.2.2.1 stk = some _ at hs
    unfold rtI at hs
    split at hs
    · rename_i ht
      cases hs
      rw [ht] at hr
      exact W.iret hx hb hr hq hf hd
    · rename_i ht
      split at hs
      · rename_i hx1
        cases hs
        rw [ht] at hr
        exact W.zret hx hb hr (narrow_b hx1) hq hf hd
      · cases hs
    · cases hs
  case lreturn =>
    obtain rfl : len = 1 := Nat.eq_of_beq_eq_true hn
    change rtL (md y).2.2.2.1 stk = some _ at hs
    unfold rtL at hs
    split at hs
    · rename_i ht
      cases hs
      rw [ht] at hr
      exact W.lret hx hb hr hq hf hd
    · cases hs
  case areturn =>
    obtain rfl : len = 1 := Nat.eq_of_beq_eq_true hn
    change rtA (md y).2.2.2.1 stk = some _ at hs
    unfold rtA at hs
    split at hs
    · rename_i ht
      cases hs
      rw [ht] at hr
      exact W.aret hx hb hr (Or.inl ⟨_, rfl⟩) (Or.inr ⟨_, rfl⟩) hq hf hd
    · rename_i ht
      cases hs
      rw [ht] at hr
      exact W.aret hx hb hr (Or.inl ⟨_, rfl⟩) (Or.inl rfl) hq hf hd
    · cases hs
  case return_ =>
    obtain rfl : len = 1 := Nat.eq_of_beq_eq_true hn
    change rtV (md y).2.2.2.1 stk = some _ at hs
    unfold rtV at hs
    split at hs
    · rename_i ht
      cases hs
      rw [ht] at hr
      exact W.vret hx hb hr hq hf hd
    · cases hs
  case invokestatic j =>
    change ivS y pc loc h (lk y j) stk = some _ at hs
    exact absurd hs ivS_no
  case invokevirtual j =>
    change ivV y pc loc (lk y j) stk = some _ at hs
    exact absurd hs ivV_no
  case ldc j => change (match (lk y j).1 with | 7 => nx (pc + 2) loc (.int (lk y j).2.2.2.toInt32 :: stk) h | _ => none) = some _ at hs; split at hs <;> cases hs
  case ldc2_w j => change (match (lk y j).1 with | 8 => nx (pc + 3) loc (.long (lk y j).2.2.2 :: stk) h | _ => none) = some _ at hs; split at hs <;> cases hs
  case iload_n j => change ldI _ _ _ _ _ = some _ at hs; unfold ldI at hs; split at hs <;> cases hs
  case iload j => change ldI _ _ _ _ _ = some _ at hs; unfold ldI at hs; split at hs <;> cases hs
  case lload_n j => change ldL _ _ _ _ _ = some _ at hs; unfold ldL at hs; split at hs <;> cases hs
  case lload j => change ldL _ _ _ _ _ = some _ at hs; unfold ldL at hs; split at hs <;> cases hs
  case aload_n j => change ldA _ _ _ _ _ = some _ at hs; unfold ldA at hs; split at hs <;> cases hs
  case aload j => change ldA _ _ _ _ _ = some _ at hs; unfold ldA at hs; split at hs <;> cases hs
  case istore_n j => change stoI _ _ _ _ _ = some _ at hs; unfold stoI at hs; split at hs <;> first | (split at hs <;> cases hs) | cases hs
  case istore j => change stoI _ _ _ _ _ = some _ at hs; unfold stoI at hs; split at hs <;> first | (split at hs <;> cases hs) | cases hs
  case lstore_n j => change stoL _ _ _ _ _ = some _ at hs; unfold stoL at hs; split at hs <;> first | (split at hs <;> cases hs) | cases hs
  case lstore j => change stoL _ _ _ _ _ = some _ at hs; unfold stoL at hs; split at hs <;> first | (split at hs <;> cases hs) | cases hs
  case astore_n j => change stoA _ _ _ _ _ = some _ at hs; unfold stoA at hs; split at hs <;> first | (split at hs <;> cases hs) | cases hs
  case astore j => change stoA _ _ _ _ _ = some _ at hs; unfold stoA at hs; split at hs <;> first | (split at hs <;> cases hs) | cases hs
  case iinc j n => change (match lget loc j with | some (.int x) => nx (pc + 3) (st1 loc j (.int (x + Int32.ofInt n))) stk h | _ => none) = some _ at hs; split at hs <;> cases hs
  case irem => change (match stk with | .int z :: .int x :: r => if z = 0 then none else nx (pc + 1) loc (.int (x - x / z * z) :: r) h | _ => none) = some _ at hs; split at hs <;> first | (split at hs <;> cases hs) | cases hs
  case ifCond cn off =>
    change stIf pc loc h cn off stk = some _ at hs
    unfold stIf at hs
    split at hs
    · split at hs
      · rcases brn_inv hs with ⟨_, h2⟩ | ⟨_, h2⟩ <;> cases h2
      · cases hs
    · cases hs
  case if_icmp cn off =>
    change stCmp pc loc h cn off stk = some _ at hs
    unfold stCmp at hs
    split at hs
    · split at hs
      · rcases brn_inv hs with ⟨_, h2⟩ | ⟨_, h2⟩ <;> cases h2
      · cases hs
    · cases hs
  case goto off => change (match jok pc off with | true => nx (jmp pc off) loc stk h | false => none) = some _ at hs; split at hs <;> cases hs
  case ifnull off => change stNull pc loc h off stk = some _ at hs; unfold stNull at hs; split at hs <;> first | (split at hs <;> cases hs) | cases hs
  case ifnonnull off => change stNon pc loc h off stk = some _ at hs; unfold stNon at hs; split at hs <;> first | (split at hs <;> cases hs) | cases hs
  case lookupswitch dflt ps =>
    change stSw pc loc h dflt (swok ps.toList) ps.toList stk = some _ at hs
    exact absurd hs stSw_no
  case tableswitch dflt lo hi offs =>
    change stSw pc loc h dflt (tok lo hi offs.toList) (tbl lo offs.toList) stk = some _ at hs
    exact absurd hs stSw_no
  case getfield j => change gfl pc loc h (lk y j) stk = some _ at hs; unfold gfl at hs; split at hs <;> first | (split at hs <;> first | (split at hs <;> cases hs) | cases hs) | cases hs
  case putfield j => change pfl pc loc h (lk y j) stk = some _ at hs; unfold pfl at hs; split at hs <;> first | (split at hs <;> first | (split at hs <;> first | cases hs | (split at hs <;> cases hs)) | cases hs) | cases hs
  case iaload => change arI pc loc h stk = some _ at hs; unfold arI at hs; split at hs <;> first | (split at hs <;> first | (split at hs <;> cases hs) | cases hs) | cases hs
  case laload => change arL pc loc h stk = some _ at hs; unfold arL at hs; split at hs <;> first | (split at hs <;> first | (split at hs <;> cases hs) | cases hs) | cases hs
  case aaload => change arA pc loc h stk = some _ at hs; unfold arA at hs; split at hs <;> first | (split at hs <;> first | (split at hs <;> cases hs) | cases hs) | cases hs
  case iastore => change asI pc loc h stk = some _ at hs; unfold asI at hs; split at hs <;> first | (split at hs <;> first | (split at hs <;> cases hs) | cases hs) | cases hs
  case lastore => change asL pc loc h stk = some _ at hs; unfold asL at hs; split at hs <;> first | (split at hs <;> first | (split at hs <;> cases hs) | cases hs) | cases hs
  all_goals first
    | exact nomatch (show (none : mR) = some _ from hs)
    | exact nomatch (show nx _ _ _ _ = some _ from hs)
    | exact absurd hs nxs_no
/-- a method's contract out of its run -/
theorem met_of (hinj : ∀ i j, i < 43 → j < 43 → ad i = ad j → i = j) {as : List Value} {r : Option Value} (hw : wds as ≤ (md y).2.2.1)
    (hgo : ∀ (p : Program) (e : Env) (s : State) (m : MethodId) (args : Array Value) (below : List Frame) (meth : Method) (c : Code) (A : Nat → Prop) (H0 : Heap) (Q : State → Prop), mCtx D cA y p (mRm y) s m args c 0 0 → mAd ad A H0 → (∀ (pc1 : Nat) (ls1 : Array Slot) (stk1 : List Value) (H1 : Heap) (locs1 : List Loc), mEnd y h' r pc1 stk1 → mWd D ad cA A H0 h' H1 locs1 → W p l e (mRm y) s m args below meth c H1 locs1 0 0 Q (F0 m pc1 ls1 (stk1.map (cv ad)))) → mGo D ad cA A H0 y p l e (mRm y) s m args below meth c 0 0 Q 0 (ent y as) [] h) : mMet l D ad cA y as h r h' := by
  intro sz
  obtain ⟨ok1, ⟨ok2, ok3, ok4, ok5, ok6⟩, ok7⟩ := md_ok y
  refine Met.ofW (cc := (md y).2.1) (maxL := (md y).2.2.1) (ret := (md y).2.2.2.1) ok2 rfl ?_
  intro p e s m args below meth c s₁ B hml hv
  obtain ⟨rfl, hsz, hP, hK, hN⟩ := hv
  subst hsz
  have hts := atoms_spec (ws := mws y) B.pre
  have hown : s.vm.findClass (md y).2.2.2.2.1 = some m.cls := by rw [← ok6]; exact findClass_of_methodNamed B.named
  have hA : mAd ad (mA ad s.heap.size) s.heap := ⟨hinj, fun k hk => Or.inl ⟨k, hk, rfl⟩, fun q hq => Or.inr hq⟩
  rw [lg_entry_eq]
  refine hgo p e s m _ below meth c (mA ad s.heap.size) s.heap _ ⟨B.exec, B.bytes, hml, hown, fun w hw => hts w (List.mem_cons_of_mem _ hw), hK, hN, Nat.le_refl _, Nat.le_refl _, Nat.le_refl _, Nat.le_refl _⟩ hA ?_ _ s.heap [] (mloc_ent ad y as hw) ⟨hP, va_S.rf⟩
  intro pc1 ls1 stk1 H1 locs1 hE hW1
  refine mEnd_ret (ad := ad) hE B.exec B.bytes B.returns B.notSynchronized (fun t ht hWm => ?_) (fun q hq => hW1.2.2.2 q hq)
  exact ⟨rfl, by rw [ht]; exact hW1.1, hW1.2.F ht⟩
theorem snd_run (l : Launch) (D : va_G) (ad : Nat → Nat) (cA : Nat → ClassId) (hinj : ∀ i j, i < 43 → j < 43 → ad i = ad j → i = j) : ∀ (n : Nat) (y pc : Nat) (loc : mL) (stk : List Value) (h : mH) (r : Option Value) (h' : mH), run n y pc loc stk h = some (r, h') →
    ∀ (p : Program) (e : Env) (R : Room) (s : State) (m : MethodId) (args : Array Value) (below : List Frame) (meth : Method) (c : Code) (cells slots : Nat) (A : Nat → Prop) (H0 : Heap) (Q : State → Prop), mCtx D cA y p R s m args c cells slots → mAd ad A H0 →
    (∀ (pc1 : Nat) (ls1 : Array Slot) (stk1 : List Value) (H1 : Heap) (locs1 : List Loc), mEnd y h' r pc1 stk1 → mWd D ad cA A H0 h' H1 locs1 → W p l e R s m args below meth c H1 locs1 cells slots Q (F0 m pc1 ls1 (stk1.map (cv ad)))) → mGo D ad cA A H0 y p l e R s m args below meth c cells slots Q pc loc stk h
  | 0, _, _, _, _, _, _, _, hr => by simp [run] at hr
  | n + 1, y, pc, loc, stk, h, r, h', hr => by
    intro p e R s m args below meth c cells slots A H0 Q C hA hend ls H locs hl hw
    unfold run at hr
    cases hs : stp y pc loc stk h with
    | none => rw [hs] at hr; cases hr
    | some q =>
      rw [hs] at hr
      obtain ⟨i, len, hd, hn, hsI⟩ := stp_inv hs
      match q, hsI with
      | .inl (pc', loc', stk', h1), hsI =>
        exact ok_next C hA hd hn hsI hl hw (snd_run l D ad cA hinj n y pc' loc' stk' h1 r h' hr p e R s m args below meth c cells slots A H0 Q C hA hend)
      | .inr (.inl (y', as, pc', loc', r')), hsI =>
        dsimp only at hr
        obtain ⟨q1, g1, g2⟩ := Option.bind_eq_some_iff.mp hr
        obtain ⟨vs, g3, g4⟩ := Option.bind_eq_some_iff.mp g2
        rw [retK_eq g3] at g4
        have hM : mMet l D ad cA y' as h q1.1 q1.2 := met_of hinj (stI_call hsI).2.2.2.2.2.1 (fun p e s m args below meth c A H0 Q C2 hA2 hend2 => snd_run l D ad cA hinj n y' 0 (ent y' as) [] h q1.1 q1.2 g1 p e (mRm y') s m args below meth c 0 0 A H0 Q C2 hA2 hend2)
        exact ok_call C hA hd hn hsI hM hl hw (snd_run l D ad cA hinj n y pc' loc' (q1.1.toList ++ r') q1.2 r h' g4 p e R s m args below meth c cells slots A H0 Q C hA hend)
      | .inr (.inr v), hsI =>
        cases hr
        exact hend pc ls stk H locs ⟨loc, i, len, hd, hn, hsI⟩ hw
/-- WHAT COUNTS: an equation of the mini machine is a contract of the machine -/
theorem rt_met (l : Launch) (D : va_G) (ad : Nat → Nat) (cA : Nat → ClassId) (hinj : ∀ i j, i < 43 → j < 43 → ad i = ad j → i = j) {y : Nat} {as : List Value} {h h' : mH} {r : Option Value} (hw : wds as ≤ (md y).2.2.1) (hr : Rt y as h = some (r, h')) : mMet l D ad cA y as h r h' := by
  obtain ⟨n, hn⟩ := run_of_ev hr
  exact met_of hinj hw (fun p e s m args below meth c A H0 Q C2 hA2 hend2 => snd_run l D ad cA hinj n y 0 (ent y as) [] h r h' hn p e (mRm y) s m args below meth c 0 0 A H0 Q C2 hA2 hend2)
end SRN
