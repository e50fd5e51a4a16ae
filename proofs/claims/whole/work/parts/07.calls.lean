/-! Calls, ends, and the whole run. -/
theorem nxs_no {pc : Nat} {loc : mL} {o : Option (List Value)} {h : mH} {q : (Nat × List Value × Nat × mL × List Value) ⊕ Option Value} : ¬ nxs pc loc h o = some (.inr q) := by
  intro hs
  cases o <;> cases hs
theorem swi_no {pc : Nat} {loc : mL} {h : mH} {r : List Value} {x : Int32} {dflt : Int} {q : (Nat × List Value × Nat × mL × List Value) ⊕ Option Value} : ∀ {qs : List (Int × Int)}, ¬ swi pc loc r h x dflt qs = some (.inr q)
  | [] => fun hs => by unfold swi at hs; split at hs <;> cases hs
  | a :: qs => fun hs => by
    unfold swi at hs
    split at hs
    · split at hs <;> cases hs
    · exact swi_no hs
theorem stSw_no {pc : Nat} {loc : mL} {h : mH} {dflt : Int} {ok : Bool} {qs : List (Int × Int)} {stk : List Value} {q : (Nat × List Value × Nat × mL × List Value) ⊕ Option Value} : ¬ stSw pc loc h dflt ok qs stk = some (.inr q) := by
  intro hs
  unfold stSw at hs
  split at hs
  · split at hs
    · exact swi_no hs
    · cases hs
  · cases hs
theorem nest_form : ∀ w ∈ mnest, ∃ a i x h, w = Cond.methodLinkNest a i x h := by
  intro w hw
  simp only [mnest, List.mem_cons, List.not_mem_nil, or_false] at hw
  rcases hw with rfl | rfl | rfl | rfl | rfl | rfl | rfl | rfl | rfl | rfl | rfl | rfl | rfl | rfl | rfl | rfl | rfl <;> exact ⟨_, _, _, _, rfl⟩
def mws (y : Nat) : List Cond := Cond.code (md y).1 (md y).2.1 (md y).2.2.1 (md y).2.2.2.1 :: mgood
theorem mws_good (y : Nat) : GoodIn mgood (mws y) := by
  intro w hw
  have h1 : w ∈ mgood := by
    rcases List.mem_cons.mp hw with rfl | h
    · exact (md_ok y).1
    · exact h
  exact ⟨h1, good_of_word (List.mem_filter.mp h1).2⟩
def mA (ad : Nat → Nat) (sz : Nat) : Nat → Prop := fun q => (∃ k, k < 43 ∧ q = ad k) ∨ sz ≤ q
def mPc (D : va_G) (ad : Nat → Nat) (cA : Nat → ClassId) (as : List Value) (h : mH) (sz : Nat) : Array Value → State → Prop := fun v U => v = (as.map (cv ad)).toArray ∧ U.heap.size = sz ∧ va_P D vwCl (mwd ad cA h) U.heap ∧ va_K D vwCl (mtys cA) U ∧ ∀ w ∈ mnest, va_Nw w U
def mQc (D : va_G) (ad : Nat → Nat) (cA : Nat → ClassId) (r : Option Value) (h' : mH) (A : Nat → Prop) : Array Value → State → Outcome → State → Prop := fun _ st oc t => oc = .returned (r.map (cv ad)) ∧ va_P D vwCl (mwd ad cA h') t.heap ∧ va_F A st t
abbrev mRm (y : Nat) : Room := { frames := (md y).2.2.2.2.2.1, cells := 0, slots := 0, locals := (md y).2.2.2.2.2.2.1 }
/-- the contract of a method at one start and end of the mini machine -/
def mMet (l : Launch) (D : va_G) (ad : Nat → Nat) (cA : Nat → ClassId) (y : Nat) (as : List Value) (h : mH) (r : Option Value) (h' : mH) : Prop := ∀ sz : Nat, Met l (md y).1 (mws y) (mRm y) (mPc D ad cA as h sz) (mQc D ad cA r h' (mA ad sz)) 0 0 (mA ad sz)
theorem mPc_blind (D : va_G) (ad : Nat → Nat) (cA : Nat → ClassId) (as : List Value) (h : mH) (sz : Nat) : FrameBlind (mPc D ad cA as h sz) := by
  intro a U g mk hq
  obtain ⟨q0, q1, qP, qK, qN⟩ := hq
  refine ⟨q0, q1, qP, va_K.moved (u := U) (U := U.calling g mk a) (Vm.Alike.refl U.vm) qK, fun w hw => ?_⟩
  obtain ⟨a1, i, x, h1, rfl⟩ := nest_form w hw
  exact va_Nw.same (u := U) (U := U.calling g mk a) rfl rfl (qN _ hw)
section SCL
variable {p : Program} {l : Launch} {e : Env} {R : Room} {s : State} {m : MethodId} {args : Array Value} {below : List Frame} {meth : Method} {c : Code} {H : Heap} {locs : List Loc} {cells slots : Nat} {Q : State → Prop}
variable {D : va_G} {ad : Nat → Nat} {cA : Nat → ClassId} {A : Nat → Prop} {H0 : Heap}
variable {y pc pc' : Nat} {loc loc' : mL} {stk stk' : List Value} {h h' : mH}
theorem mPc_of {as : List Value} (hP : va_P D vwCl (mwd ad cA h) H) (hK : va_K D vwCl (mtys cA) s) (hN : ∀ w ∈ mnest, va_Nw w s) : ∀ U : State, U.heap = H → s.WarmedH U.vm → mPc D ad cA as h H.size (as.map (cv ad)).toArray U := by
  intro U hU hW
  refine ⟨rfl, by rw [hU], by rw [hU]; exact hP, va_K.moved hW.alike hK, fun w hw => ?_⟩
  obtain ⟨a1, i, x, h1, rfl⟩ := nest_form w hw
  exact va_Nw.warmM hW (hN _ hw)
theorem m_call {ls : Array Slot} {st0 rest : List Value} {a : Array Value} {v : Option Value} (hA : mAd ad A H0) (hr : va_Run p l e R s m args below meth c H locs cells slots 0 0 (F0 m pc ls st0) rest (mQc D ad cA v h' (mA ad H.size) a) (mA ad H.size)) (hS : va_S A H0 H locs)
    (kk : ∀ (H1 : Heap) (locs1 : List Loc), va_P D vwCl (mwd ad cA h') H1 → va_S A H0 H1 locs1 → W p l e R s m args below meth c H1 locs1 cells slots Q (F0 m (pc + 3) ls ((v.map (cv ad)).toList ++ rest))) : W p l e R s m args below meth c H locs cells slots Q (F0 m pc ls st0) := by
  have hF : ∀ q, mA ad H.size q → A q := by
    rintro q (⟨k, hk, rfl⟩ | hq)
    · exact hA.2.1 k hk
    · exact hA.2.2 q (Nat.le_trans hS.1 hq)
  intro T hT X
  obtain ⟨v', st₀, t, T', L, h0, X', hL, e1, e2, ⟨ho, hP, hz, hk⟩, st⟩ := hr T hT X
  cases ho
  rw [h0] at hz hk
  obtain ⟨t2, a1, b1⟩ := kk T'.heap (locs ++ L) (by rw [e1]; exact hP)
    ⟨Nat.le_trans hS.1 (by rw [e1]; exact hz), fun q h1 h2 => by rw [e1, hk q (Nat.lt_of_lt_of_le h1 hS.1) (fun z => h2 (hF q z))]; exact hS.2.1 q h1 h2, fun q hq => by
      rcases List.mem_append.mp hq with h | h
      · exact hS.2.2 q h
      · exact hF _ (hL q h)⟩ T' rfl X'
  exact ⟨t2, st t2 a1, b1⟩
theorem retK_eq {t : Option FieldType} {v : Option Value} {vs : List Value} (hv : retK t v = some vs) : vs = v.toList := by
  unfold retK at hv
  split at hv <;> cases hv <;> rfl
theorem cal_inv {y' y2 : Nat} {as as2 r r2 : List Value} (hs : cal y y' pc loc as r = some (.inr (.inl (y2, as2, pc', loc', r2)))) : (md y').2.2.2.2.2.1 + 1 ≤ (md y).2.2.2.2.2.1 ∧ 8 + ((md y').2.2.1 + 11) + (md y').2.2.2.2.2.2.1 ≤ (md y).2.2.2.2.2.2.1 ∧ cats r ≤ 8 ∧ wds as ≤ (md y').2.2.1 ∧ y2 = y' ∧ as2 = as ∧ pc' = pc + 3 ∧ loc' = loc ∧ r2 = r := by
  unfold cal at hs
  split at hs
  · rename_i hb
    simp only [Bool.and_eq_true] at hb
    obtain ⟨⟨⟨⟨b1, b2⟩, b3⟩, b4⟩, b5⟩ := hb
    cases hs
    exact ⟨Nat.le_of_ble_eq_true b1, Nat.le_of_ble_eq_true b2, Nat.le_of_ble_eq_true b3, Nat.le_of_ble_eq_true b4, rfl, rfl, rfl, rfl, rfl⟩
  · cases hs
/-- a call: which instruction, and that what it calls has room -/
theorem stI_call {i : Instr} {y' : Nat} {as r : List Value} (hs : stI y pc loc stk h i = some (.inr (.inl (y', as, pc', loc', r)))) : pc' = pc + 3 ∧ loc' = loc ∧ (md y').2.2.2.2.2.1 + 1 ≤ (md y).2.2.2.2.2.1 ∧ 8 + ((md y').2.2.1 + 11) + (md y').2.2.2.2.2.2.1 ≤ (md y).2.2.2.2.2.2.1 ∧ cats r ≤ 8 ∧ wds as ≤ (md y').2.2.1 ∧
    ((∃ j, i = .invokestatic j ∧ as.length = (md y').2.2.2.2.2.2.2.1 ∧ stk = as.reverse ++ r ∧ (((lk y j).1 = 3 ∧ (lk y j).2.1 = y') ∨ ((lk y j).1 = 5 ∧ (lk y j).2.1 = y'))) ∨
     (∃ j k as', i = .invokevirtual j ∧ as = .ref k :: as' ∧ as'.length = (md y').2.2.2.2.2.2.2.1 ∧ stk = as'.reverse ++ .ref k :: r ∧ (lk y j).1 = 4 ∧ (lk y j).2.1 = y' ∧ shp k = (0, (lk y j).2.2.1))) := by
  cases i
  case invokestatic j =>
    change ivS y pc loc h (lk y j) stk = some _ at hs
    unfold ivS at hs
    split at hs
    · rename_i hq
      split at hs
      · rename_i hb
        have hb := Nat.le_of_ble_eq_true hb
        obtain ⟨h1, h2, h3, h4, rfl, rfl, h7, h8, rfl⟩ := cal_inv hs
        refine ⟨h7, h8, h1, h2, h3, h4, Or.inl ⟨j, rfl, ?_, ?_, Or.inl ⟨hq, rfl⟩⟩⟩
        · rw [List.length_reverse, List.length_take]; omega
        · rw [List.reverse_reverse, List.take_append_drop]
      · cases hs
    · rename_i hq
      split at hs
      · rename_i hb
        have hb := Nat.le_of_ble_eq_true hb
        obtain ⟨h1, h2, h3, h4, rfl, rfl, h7, h8, rfl⟩ := cal_inv hs
        refine ⟨h7, h8, h1, h2, h3, h4, Or.inl ⟨j, rfl, ?_, ?_, Or.inr ⟨hq, rfl⟩⟩⟩
        · rw [List.length_reverse, List.length_take]; omega
        · rw [List.reverse_reverse, List.take_append_drop]
      · cases hs
    · split at hs
      · split at hs <;> cases hs
      · cases hs
    · split at hs
      · split at hs <;> cases hs
      · cases hs
    · split at hs
      · split at hs
        · split at hs <;> cases hs
        · cases hs
      · cases hs
    · cases hs
  case invokevirtual j =>
    change ivV y pc loc (lk y j) stk = some _ at hs
    unfold ivV at hs
    split at hs
    · rename_i hq
      split at hs
      · rename_i hb
        have hb := Nat.le_of_ble_eq_true hb
        split at hs
        · rename_i k r1 hdr
          split at hs
          · rename_i hk
            obtain ⟨h1, h2, h3, h4, rfl, rfl, h7, h8, rfl⟩ := cal_inv hs
            refine ⟨h7, h8, h1, h2, h3, h4, Or.inr ⟨j, k, _, rfl, rfl, ?_, ?_, hq, rfl, hk⟩⟩
            · rw [List.length_reverse, List.length_take]; omega
            · rw [List.reverse_reverse, ← hdr, List.take_append_drop]
          · cases hs
        · cases hs
      · cases hs
    · cases hs
  case ldc j => change (match (lk y j).1 with | 7 => nx (pc + 2) loc (.int (lk y j).2.2.2.toInt32 :: stk) h | _ => none) = some _ at hs; split at hs <;> cases hs
  case ldc2_w j => change (match (lk y j).1 with | 8 => nx (pc + 3) loc (.long (lk y j).2.2.2 :: stk) h | _ => none) = some _ at hs; split at hs <;> cases hs
  case iload_n j => change ldI _ _ _ _ _ = some _ at hs; unfold ldI at hs; split at hs <;> cases hs
  case iload j => change ldI _ _ _ _ _ = some _ at hs; unfold ldI at hs; split at hs <;> cases hs
  case lload_n j => change ldL _ _ _ _ _ = some _ at hs; unfold ldL at hs; split at hs <;> cases hs
  case lload j => change ldL _ _ _ _ _ = some _ at hs; unfold ldL at hs; split at hs <;> cases hs
  case aload_n j => change ldA _ _ _ _ _ = some _ at hs; unfold ldA at hs; split at hs <;> cases hs
  case aload j => change ldA _ _ _ _ _ = some _ at hs; unfold ldA at hs; split at hs <;> cases hs
  case istore_n j => change stoI _ _ _ _ _ = some _ at hs; unfold stoI at hs; split at hs <;> first | (split at hs <;> cases hs) | cases hs
  case istore j => change stoI _ _ _ _ _ = some _ at hs; unfold stoI at hs; split at hs <;> first | (split at hs <;> cases hs) | cases hs
  case lstore_n j => change stoL _ _ _ _ _ = some _ at hs; unfold stoL at hs; split at hs <;> first | (split at hs <;> cases hs) | cases hs
  case lstore j => change stoL _ _ _ _ _ = some _ at hs; unfold stoL at hs; split at hs <;> first | (split at hs <;> cases hs) | cases hs
  case astore_n j => change stoA _ _ _ _ _ = some _ at hs; unfold stoA at hs; split at hs <;> first | (split at hs <;> cases hs) | cases hs
  case astore j => change stoA _ _ _ _ _ = some _ at hs; unfold stoA at hs; split at hs <;> first | (split at hs <;> cases hs) | cases hs
  case iinc j n => change (match lget loc j with | some (.int x) => nx (pc + 3) (st1 loc j (.int (x + Int32.ofInt n))) stk h | _ => none) = some _ at hs; split at hs <;> cases hs
  case irem => change (match stk with | .int z :: .int x :: r => if z = 0 then none else nx (pc + 1) loc (.int (x - x / z * z) :: r) h | _ => none) = some _ at hs; split at hs <;> first | (split at hs <;> cases hs) | cases hs
  case ifCond cn off =>
    change stIf pc loc h cn off stk = some _ at hs
    unfold stIf at hs
    split at hs
    · split at hs
      · rcases brn_inv hs with ⟨_, h2⟩ | ⟨_, h2⟩ <;> cases h2
      · cases hs
    · cases hs
  case if_icmp cn off =>
    change stCmp pc loc h cn off stk = some _ at hs
    unfold stCmp at hs
    split at hs
    · split at hs
      · rcases brn_inv hs with ⟨_, h2⟩ | ⟨_, h2⟩ <;> cases h2
      · cases hs
    · cases hs
  case goto off => change (match jok pc off with | true => nx (jmp pc off) loc stk h | false => none) = some _ at hs; split at hs <;> cases hs
  case ifnull off => change stNull pc loc h off stk = some _ at hs; unfold stNull at hs; split at hs <;> first | (split at hs <;> cases hs) | cases hs
  case ifnonnull off => change stNon pc loc h off stk = some _ at hs; unfold stNon at hs; split at hs <;> first | (split at hs <;> cases hs) | cases hs
  case lookupswitch dflt ps =>
    change stSw pc loc h dflt (swok ps.toList) ps.toList stk = some _ at hs
    exact absurd hs stSw_no
  case tableswitch dflt lo hi offs =>
    change stSw pc loc h dflt (tok lo hi offs.toList) (tbl lo offs.toList) stk = some _ at hs
    exact absurd hs stSw_no
  case getfield j => change gfl pc loc h (lk y j) stk = some _ at hs; unfold gfl at hs; split at hs <;> first | (split at hs <;> first | (split at hs <;> cases hs) | cases hs) | cases hs
  case putfield j => change pfl pc loc h (lk y j) stk = some _ at hs; unfold pfl at hs; split at hs <;> first | (split at hs <;> first | (split at hs <;> first | cases hs | (split at hs <;> cases hs)) | cases hs) | cases hs
  case iaload => change arI pc loc h stk = some _ at hs; unfold arI at hs; split at hs <;> first | (split at hs <;> first | (split at hs <;> cases hs) | cases hs) | cases hs
  case laload => change arL pc loc h stk = some _ at hs; unfold arL at hs; split at hs <;> first | (split at hs <;> first | (split at hs <;> cases hs) | cases hs) | cases hs
  case aaload => change arA pc loc h stk = some _ at hs; unfold arA at hs; split at hs <;> first | (split at hs <;> first | (split at hs <;> cases hs) | cases hs) | cases hs
  case iastore => change asI pc loc h stk = some _ at hs; unfold asI at hs; split at hs <;> first | (split at hs <;> first | (split at hs <;> cases hs) | cases hs) | cases hs
  case lastore => change asL pc loc h stk = some _ at hs; unfold asL at hs; split at hs <;> first | (split at hs <;> first | (split at hs <;> cases hs) | cases hs) | cases hs
  case ireturn => change rtI (md y).2.2.2.1 stk = some _ at hs; unfold rtI at hs; split at hs <;> first | (split at hs <;> cases hs) | cases hs
  case lreturn => change rtL (md y).2.2.2.1 stk = some _ at hs; unfold rtL at hs; split at hs <;> cases hs
  case areturn => change rtA (md y).2.2.2.1 stk = some _ at hs; unfold rtA at hs; split at hs <;> cases hs
  case return_ => change rtV (md y).2.2.2.1 stk = some _ at hs; unfold rtV at hs; split at hs <;> cases hs
  all_goals first
    | exact nomatch (show (none : mR) = some _ from hs)
    | exact nomatch (show nx _ _ _ _ = some _ from hs)
    | exact absurd hs nxs_no
end SCL
