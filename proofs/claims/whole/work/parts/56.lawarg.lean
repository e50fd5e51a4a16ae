/-! What the law reads of its script, and where its loop goes on. -/
section LA
variable {p : Program} {l : Launch} {e : Env} {R : Room} {s : State} {m : MethodId} {args : Array Value} {below : List Frame} {meth : Method} {c : Code} {H : Heap} {locs : List Loc} {cells slots : Nat} {Q : State → Prop}
variable {A : Nat → Prop} {H0 : Heap}
theorem law_arg {pc b L q j : Nat} {n : Int} {cc : ByteArray} {xs : Nat → Int32} {ls : Array Slot} {st : List Value} (hx : p.tables.exec = Jvm.exec) (hb : c.code = cc) (h0 : decode cc pc = .ok (.aload_n 0, 1)) (h1 : decode cc (pc + 1) = .ok (.iload_n 3, 1)) (h2 : decode cc (pc + 2) = .ok (.iconst n, 1)) (h3 : decode cc (pc + 3) = .ok (.iadd, 1)) (h4 : decode cc (pc + 4) = .ok (.iaload, 1)) (l0 : ls[0]? = some (.val (.ref b))) (l3 : ls[3]? = some (.val (.int (nI q)))) (hn : Int32.ofInt n = nI j) (hX : va_X b L xs s H0) (hbl : b < H0.size) (hbA : ¬ A b) (hS : va_S A H0 H locs) (hq : q + j < L) (hL : L ≤ 3072)
    (k : W p l e R s m args below meth c H locs cells slots Q (F0 m (pc + 5) ls (.int (xs (q + j)) :: st))) : W p l e R s m args below meth c H locs cells slots Q (F0 m pc ls st) := by
  refine lv_aload_n hx hb h0 rfl l0 (lv_iload_n hx hb h1 rfl l3 (lv_iconst hx hb h2 rfl (lv_iadd hx hb h3 ?_)))
  rw [hn, show nI q + nI j = nI (q + j) from (Int32.ofNat_add q j).symm]
  have hcl : (nI (q + j)).toNatClampNeg = q + j := cl_nI (by omega)
  refine va_sld (i := nI (q + j)) hx hb hX hbl hbA hS ?_ h4 ?_
  · rintro (h | h)
    · rw [lt0_nI (by omega)] at h; exact h
    · rw [hcl] at h; omega
  · rw [hcl]; exact k
end LA
