/-! One case of the law: both calls. -/
section LT
variable {p : Program} {l : Launch} {e : Env} {R : Room} {s : State} {m : MethodId} {args : Array Value} {below : List Frame} {meth : Method} {c : Code} {H : Heap} {locs : List Loc} {cells slots : Nat} {Q : State → Prop}
variable {D : va_G} {ad : Nat → Nat} {cA : Nat → ClassId} {A : Nat → Prop} {H0 : Heap}
theorem cat2 (v : Option Value) (ad : Nat → Nat) : (((v.map (cv ad)).toList).map fun v => v.category).sum ≤ 8 := by
  cases v with
  | none => exact Nat.zero_le 8
  | some v => cases v <;> simp [cv, Value.category]
theorem law_both {b L q k y z ix iz pc nL : Nat} {cc : ByteArray} {own : String} {xs : Nat → Int32} {ls : Array Slot} {h : mH} (hx : p.tables.exec = Jvm.exec) (hb : c.code = cc) (hml : c.maxLocals = nL) (hown : s.vm.findClass own = some m.cls) (hts : ∀ w ∈ mgood, w.before args s = true) (hK : va_K D vwCl (mtys cA) s) (hN : ∀ w ∈ mnest, va_Nw w s) (hA : mAd ad A H0) (hw : mWd D ad cA A H0 h H locs) (hi : Inv h)
    (hX : va_X b L xs s H0) (hbl : b < H0.size) (hbA : ¬ A b) (hL : L ≤ 3072) (hls : ls.size = nL) (l0 : ls[0]? = some (.val (.ref b))) (l1 : ls[1]? = some (.val (.ref (ad 0)))) (l2 : ls[2]? = some (.val (.ref (ad 27)))) (l3 : ls[3]? = some (.val (.int (nI q)))) (hq : q + k < L) (hk5 : k ≤ 5) (hfit : cells + 0 ≤ R.cells ∧ slots + 0 ≤ R.slots)
    (hP : Pr y z (avs xs q k)) (d1 : decode cc pc = .ok (.aload_n 1, 1)) (da : ∀ t, t < k → decs cc (pc + 1 + 5 * t) ((t + 1 : Nat) : Int)) (di : decode cc (pc + 1 + 5 * k) = .ok (.invokevirtual ix, 3)) (d2 : decode cc (pc + 1 + 5 * k + 3) = .ok (.aload_n 2, 1)) (db : ∀ t, t < k → decs cc (pc + 1 + 5 * k + 3 + 1 + 5 * t) ((t + 1 : Nat) : Int)) (dj : decode cc (pc + 1 + 5 * k + 3 + 1 + 5 * k) = .ok (.invokevirtual iz, 3))
    (vy : virOK own ix y 7) (vz : virOK own iz z 8) (hRy : (mRm y).frames + 1 ≤ R.frames ∧ 8 + ((md y).2.2.1 + 11) + (mRm y).locals ≤ R.locals) (hRz : (mRm z).frames + 1 ≤ R.frames ∧ 8 + ((md z).2.2.1 + 11) + (mRm z).locals ≤ R.locals) (wy : wds (.ref 0 :: avs xs q k) ≤ (md y).2.2.1) (wz : wds (.ref 27 :: avs xs q k) ≤ (md z).2.2.1) (ny : k = (md y).2.2.2.2.2.2.2.1) (nz : k = (md z).2.2.2.2.2.2.2.1)
    (kk : ∀ (r : Option Value) (h2 : mH) (H1 : Heap) (locs1 : List Loc), Inv h2 → rS (md y).2.2.2.1 r → mWd D ad cA A H0 h2 H1 locs1 → W p l e R s m args below meth c H1 locs1 cells slots Q (F0 m (pc + 1 + 5 * k + 3 + 1 + 5 * k + 3) ls ((r.map (cv ad)).toList ++ (r.map (cv ad)).toList))) : W p l e R s m args below meth c H locs cells slots Q (F0 m pc ls []) := by
  obtain ⟨r, h1, h2, e1, e2, i2⟩ := hP h hi
  refine lv_aload_n hx hb d1 rfl l1 (law_args hx hb l0 l3 hX hbl hbA hw.2 hL k (pc + 1) da hk5 hq ?_)
  have c1 := law_call (p := p) (l := l) (e := e) (R := R) (s := s) (m := m) (args := args) (below := below) (meth := meth) (c := c) (H := H) (locs := locs) (cells := cells) (slots := slots) (Q := Q) (a := 0) (ci := 7) (as' := avs xs q k) (rest := []) (pc := pc + 1 + 5 * k) (idx := ix) (y := y) (ls := ls) (v := r) (h' := h1) hx hb hml hown hts hK hN hA hw vy rfl hRy hfit wy ((avs_len xs q k).trans ny) di hls (Nat.zero_le 8) e1 ?_
  · rw [avs_cv] at c1; exact c1
  · intro H1 locs1 w1
    rw [List.append_nil]
    refine lv_aload_n hx hb d2 rfl l2 (law_args hx hb l0 l3 hX hbl hbA w1.2 hL k (pc + 1 + 5 * k + 3 + 1) db hk5 hq ?_)
    have c2 := law_call (p := p) (l := l) (e := e) (R := R) (s := s) (m := m) (args := args) (below := below) (meth := meth) (c := c) (H := H1) (locs := locs1) (cells := cells) (slots := slots) (Q := Q) (a := 27) (ci := 8) (as' := avs xs q k) (rest := (r.map (cv ad)).toList) (pc := pc + 1 + 5 * k + 3 + 1 + 5 * k) (idx := iz) (y := z) (ls := ls) (v := r) (h' := h2) hx hb hml hown hts hK hN hA w1 vz rfl hRz hfit wz ((avs_len xs q k).trans nz) dj hls (cat2 r ad) e2 (fun H2 locs2 w2 => kk r h2 H2 locs2 i2 (rt_rS e1) w2)
    rw [avs_cv] at c2; exact c2
end LT
