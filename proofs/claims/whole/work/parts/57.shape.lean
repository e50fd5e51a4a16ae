/-! What a method gives has the shape that its type says. -/
def rS (t : Option FieldType) (r : Option Value) : Prop := match t with
  | some .int => ∃ x, r = some (.int x)
  | some .boolean => ∃ x, r = some (.int x)
  | some .long => ∃ x, r = some (.long x)
  | _ => True
theorem end_rS {y pc : Nat} {loc : mL} {stk : List Value} {h : mH} {i : Instr} {r : Option Value} (hs : stI y pc loc stk h i = some (.inr (.inr r))) : rS (md y).2.2.2.1 r := by
  cases i
  case ireturn =>
    change rtI (md y).2.2.2.1 stk = some _ at hs
    unfold rtI at hs
    split at hs
    · rename_i ht
      cases hs
      rw [ht]
      exact ⟨_, rfl⟩
    · rename_i ht
      split at hs
      · rename_i hx1
        cases hs
        rw [ht]
        exact ⟨_, rfl⟩
      · cases hs
    · cases hs
  case lreturn =>
    change rtL (md y).2.2.2.1 stk = some _ at hs
    unfold rtL at hs
    split at hs
    · rename_i ht
      cases hs
      rw [ht]
      exact ⟨_, rfl⟩
    · cases hs
  case areturn =>
    change rtA (md y).2.2.2.1 stk = some _ at hs
    unfold rtA at hs
    split at hs
    · rename_i ht
      cases hs
      rw [ht]
      trivial
    · rename_i ht
      cases hs
      rw [ht]
      trivial
    · cases hs
  case return_ =>
    change rtV (md y).2.2.2.1 stk = some _ at hs
    unfold rtV at hs
    split at hs
    · rename_i ht
      cases hs
      rw [ht]
      trivial
    · cases hs
  case invokestatic j =>
    change ivS y pc loc h (lk y j) stk = some _ at hs
    exact absurd hs ivS_no
  case invokevirtual j =>
    change ivV y pc loc (lk y j) stk = some _ at hs
    exact absurd hs ivV_no
  case ldc j => change (match (lk y j).1 with | 7 => nx (pc + 2) loc (.int (lk y j).2.2.2.toInt32 :: stk) h | _ => none) = some _ at hs; split at hs <;> cases hs
  case ldc2_w j => change (match (lk y j).1 with | 8 => nx (pc + 3) loc (.long (lk y j).2.2.2 :: stk) h | _ => none) = some _ at hs; split at hs <;> cases hs
  case iload_n j => change ldI _ _ _ _ _ = some _ at hs; unfold ldI at hs; split at hs <;> cases hs
  case iload j => change ldI _ _ _ _ _ = some _ at hs; unfold ldI at hs; split at hs <;> cases hs
  case lload_n j => change ldL _ _ _ _ _ = some _ at hs; unfold ldL at hs; split at hs <;> cases hs
  case lload j => change ldL _ _ _ _ _ = some _ at hs; unfold ldL at hs; split at hs <;> cases hs
  case aload_n j => change ldA _ _ _ _ _ = some _ at hs; unfold ldA at hs; split at hs <;> cases hs
  case aload j => change ldA _ _ _ _ _ = some _ at hs; unfold ldA at hs; split at hs <;> cases hs
  case istore_n j => change stoI _ _ _ _ _ = some _ at hs; unfold stoI at hs; split at hs <;> first | (split at hs <;> cases hs) | cases hs
  case istore j => change stoI _ _ _ _ _ = some _ at hs; unfold stoI at hs; split at hs <;> first | (split at hs <;> cases hs) | cases hs
  case lstore_n j => change stoL _ _ _ _ _ = some _ at hs; unfold stoL at hs; split at hs <;> first | (split at hs <;> cases hs) | cases hs
  case lstore j => change stoL _ _ _ _ _ = some _ at hs; unfold stoL at hs; split at hs <;> first | (split at hs <;> cases hs) | cases hs
  case astore_n j => change stoA _ _ _ _ _ = some _ at hs; unfold stoA at hs; split at hs <;> first | (split at hs <;> cases hs) | cases hs
  case astore j => change stoA _ _ _ _ _ = some _ at hs; unfold stoA at hs; split at hs <;> first | (split at hs <;> cases hs) | cases hs
  case iinc j n => change (match lget loc j with | some (.int x) => nx (pc + 3) (st1 loc j (.int (x + Int32.ofInt n))) stk h | _ => none) = some _ at hs; split at hs <;> cases hs
  case irem => change (match stk with | .int z :: .int x :: r => if z = 0 then none else nx (pc + 1) loc (.int (x - x / z * z) :: r) h | _ => none) = some _ at hs; split at hs <;> first | (split at hs <;> cases hs) | cases hs
  case ifCond cn off =>
    change stIf pc loc h cn off stk = some _ at hs
    unfold stIf at hs
    split at hs
    · split at hs
      · rcases brn_inv hs with ⟨_, h2⟩ | ⟨_, h2⟩ <;> cases h2
      · cases hs
    · cases hs
  case if_icmp cn off =>
    change stCmp pc loc h cn off stk = some _ at hs
    unfold stCmp at hs
    split at hs
    · split at hs
      · rcases brn_inv hs with ⟨_, h2⟩ | ⟨_, h2⟩ <;> cases h2
      · cases hs
    · cases hs
  case goto off => change (match jok pc off with | true => nx (jmp pc off) loc stk h | false => none) = some _ at hs; split at hs <;> cases hs
  case ifnull off => change stNull pc loc h off stk = some _ at hs; unfold stNull at hs; split at hs <;> first | (split at hs <;> cases hs) | cases hs
  case ifnonnull off => change stNon pc loc h off stk = some _ at hs; unfold stNon at hs; split at hs <;> first | (split at hs <;> cases hs) | cases hs
  case lookupswitch dflt ps =>
    change stSw pc loc h dflt (swok ps.toList) ps.toList stk = some _ at hs
    exact absurd hs stSw_no
  case tableswitch dflt lo hi offs =>
    change stSw pc loc h dflt (tok lo hi offs.toList) (tbl lo offs.toList) stk = some _ at hs
    exact absurd hs stSw_no
  case getfield j => change gfl pc loc h (lk y j) stk = some _ at hs; unfold gfl at hs; split at hs <;> first | (split at hs <;> first | (split at hs <;> cases hs) | cases hs) | cases hs
  case putfield j => change pfl pc loc h (lk y j) stk = some _ at hs; unfold pfl at hs; split at hs <;> first | (split at hs <;> first | (split at hs <;> first | cases hs | (split at hs <;> cases hs)) | cases hs) | cases hs
  case iaload => change arI pc loc h stk = some _ at hs; unfold arI at hs; split at hs <;> first | (split at hs <;> first | (split at hs <;> cases hs) | cases hs) | cases hs
  case laload => change arL pc loc h stk = some _ at hs; unfold arL at hs; split at hs <;> first | (split at hs <;> first | (split at hs <;> cases hs) | cases hs) | cases hs
  case aaload => change arA pc loc h stk = some _ at hs; unfold arA at hs; split at hs <;> first | (split at hs <;> first | (split at hs <;> cases hs) | cases hs) | cases hs
  case iastore => change asI pc loc h stk = some _ at hs; unfold asI at hs; split at hs <;> first | (split at hs <;> first | (split at hs <;> cases hs) | cases hs) | cases hs
  case lastore => change asL pc loc h stk = some _ at hs; unfold asL at hs; split at hs <;> first | (split at hs <;> first | (split at hs <;> cases hs) | cases hs) | cases hs
  all_goals first
    | exact nomatch (show (none : mR) = some _ from hs)
    | exact nomatch (show nx _ _ _ _ = some _ from hs)
    | exact absurd hs nxs_no
theorem run_rS : ∀ (n y pc : Nat) (loc : mL) (stk : List Value) (h : mH) (q : Option Value × mH), run n y pc loc stk h = some q → rS (md y).2.2.2.1 q.1
  | 0, _, _, _, _, _, _, hr => by simp [run] at hr
  | n + 1, y, pc, loc, stk, h, q, hr => by
    unfold run at hr
    split at hr
    · cases hr
    · exact run_rS n y _ _ _ _ q hr
    · rw [Option.bind_eq_some_iff] at hr
      obtain ⟨q1, _, hr⟩ := hr
      rw [Option.bind_eq_some_iff] at hr
      obtain ⟨vs, _, hr⟩ := hr
      exact run_rS n y _ _ _ _ q hr
    · rename_i v hs
      cases hr
      obtain ⟨i, len, _, _, h3⟩ := stp_inv hs
      exact end_rS h3
theorem rt_rS {y : Nat} {as : List Value} {h h' : mH} {r : Option Value} (hr : Rt y as h = some (r, h')) : rS (md y).2.2.2.1 r := by
  obtain ⟨n, hn⟩ := run_of_ev hr
  exact run_rS n y 0 _ _ _ _ hn
