/-! The law's comparisons: what was answered twice is equal. -/
section LU
variable {p : Program} {l : Launch} {e : Env} {R : Room} {s : State} {m : MethodId} {args : Array Value} {below : List Frame} {meth : Method} {c : Code} {H : Heap} {locs : List Loc} {cells slots : Nat} {Q : State → Prop}
theorem law_eqI {cc : ByteArray} {pc tgt : Nat} {off : Int} {ls : Array Slot} {r : Option Value} {t : Option FieldType} {ad : Nat → Nat} (hx : p.tables.exec = Jvm.exec) (hb : c.code = cc) (ht : t = some .int) (hr : rS t r) (hd : decode cc pc = .ok (.if_icmp .eq off, 3)) (hj : (pc : Int) + off = (tgt : Int)) (k : W p l e R s m args below meth c H locs cells slots Q (F0 m tgt ls [])) : W p l e R s m args below meth c H locs cells slots Q (F0 m pc ls ((r.map (cv ad)).toList ++ (r.map (cv ad)).toList)) := by
  subst ht
  obtain ⟨x, rfl⟩ := hr
  exact lv_icmp_eq hx hb hd hj (fun _ => k) (fun q => absurd rfl q)
theorem law_eqL {cc : ByteArray} {pc tgt : Nat} {off : Int} {ls : Array Slot} {r : Option Value} {t : Option FieldType} {ad : Nat → Nat} (hx : p.tables.exec = Jvm.exec) (hb : c.code = cc) (ht : t = some .long) (hr : rS t r) (hc : decode cc pc = .ok (.lcmp, 1)) (hd : decode cc (pc + 1) = .ok (.ifCond .eq off, 3)) (hj : ((pc + 1 : Nat) : Int) + off = (tgt : Int)) (k : W p l e R s m args below meth c H locs cells slots Q (F0 m tgt ls [])) : W p l e R s m args below meth c H locs cells slots Q (F0 m pc ls ((r.map (cv ad)).toList ++ (r.map (cv ad)).toList)) := by
  subst ht
  obtain ⟨x, rfl⟩ := hr
  refine W.lcmp hx hb hc (lv_if_eq hx hb hd hj (fun _ => k) (fun q => absurd ?_ q))
  rw [lcmp0]
end LU
