/-! One case of the law. -/
def decs (cc : ByteArray) (pc : Nat) (n : Int) : Prop := decode cc pc = .ok (.aload_n 0, 1) ∧ decode cc (pc + 1) = .ok (.iload_n 3, 1) ∧ decode cc (pc + 2) = .ok (.iconst n, 1) ∧ decode cc (pc + 3) = .ok (.iadd, 1) ∧ decode cc (pc + 4) = .ok (.iaload, 1)
def avs (xs : Nat → Int32) (q k : Nat) : List Value := (List.range k).map fun t => .int (xs (q + (t + 1)))
theorem avs_succ (xs : Nat → Int32) (q k : Nat) : (avs xs q (k + 1)).reverse = .int (xs (q + (k + 1))) :: (avs xs q k).reverse := by
  unfold avs
  rw [List.range_succ, List.map_append, List.reverse_append]; rfl
theorem avs_len (xs : Nat → Int32) (q k : Nat) : (avs xs q k).length = k := by unfold avs; rw [List.length_map, List.length_range]
theorem avs_cv (xs : Nat → Int32) (q k : Nat) (ad : Nat → Nat) : (avs xs q k).map (cv ad) = avs xs q k := by
  unfold avs; rw [List.map_map]; rfl
section LS
variable {p : Program} {l : Launch} {e : Env} {R : Room} {s : State} {m : MethodId} {args : Array Value} {below : List Frame} {meth : Method} {c : Code} {H : Heap} {locs : List Loc} {cells slots : Nat} {Q : State → Prop}
variable {D : va_G} {ad : Nat → Nat} {cA : Nat → ClassId} {A : Nat → Prop} {H0 : Heap}
theorem law_args {b L q : Nat} {cc : ByteArray} {xs : Nat → Int32} {ls : Array Slot} {st : List Value} (hx : p.tables.exec = Jvm.exec) (hb : c.code = cc) (l0 : ls[0]? = some (.val (.ref b))) (l3 : ls[3]? = some (.val (.int (nI q)))) (hX : va_X b L xs s H0) (hbl : b < H0.size) (hbA : ¬ A b) (hS : va_S A H0 H locs) (hL : L ≤ 3072) : ∀ (k pc : Nat), (∀ t, t < k → decs cc (pc + 5 * t) ((t + 1 : Nat) : Int)) → k ≤ 5 → q + k < L → W p l e R s m args below meth c H locs cells slots Q (F0 m (pc + 5 * k) ls ((avs xs q k).reverse ++ st)) → W p l e R s m args below meth c H locs cells slots Q (F0 m pc ls st)
  | 0, pc, _, _, _, hk => hk
  | k + 1, pc, hd, h5, hq, hk => by
    refine law_args hx hb l0 l3 hX hbl hbA hS hL k pc (fun t ht => hd t (by omega)) (by omega) (by omega) ?_
    obtain ⟨d0, d1, d2, d3, d4⟩ := hd k (by omega)
    refine law_arg (j := k + 1) hx hb d0 d1 d2 d3 d4 l0 l3 (by
      have : k = 0 ∨ k = 1 ∨ k = 2 ∨ k = 3 ∨ k = 4 := by omega
      rcases this with rfl | rfl | rfl | rfl | rfl <;> decide) hX hbl hbA hS (by omega) hL ?_
    rw [avs_succ] at hk
    exact hk
end LS
