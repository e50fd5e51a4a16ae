/-! Rows for constructors: the world is any list, then cells of ours. -/
def kw (D : va_G) (A : Nat → Prop) (ws cs : va_W) (H0 H : Heap) (locs : List Loc) : Prop := va_P D vwCl (ws ++ cs) H ∧ va_D A (ws ++ cs) ∧ va_S A H0 H locs
def kC (p : Program) (s : State) (m : MethodId) (args : Array Value) (c : Code) (cc : ByteArray) (nL : Nat) (own : String) (D : va_G) (cA : Nat → ClassId) (A : Nat → Prop) (H0 : Heap) : Prop := p.tables.exec = Jvm.exec ∧ c.code = cc ∧ c.maxLocals = nL ∧ s.vm.findClass own = some m.cls ∧ (∀ w ∈ mgood, w.before args s = true) ∧ va_K D vwCl (mtys cA) s ∧ (∀ w ∈ mnest, va_Nw w s) ∧ va_AO "CommitIndex$Sheet" s ∧ ∀ q, H0.size ≤ q → A q
theorem kAt {ws cs : va_W} {j : Nat} {x : Nat × va_E} (h : cs[j]? = some x) : (ws ++ cs)[ws.length + j]? = some x := by
  rw [List.getElem?_append_right (Nat.le_add_right _ _), Nat.add_sub_cancel_left]; exact h
theorem kSet (ws cs : va_W) (j : Nat) (x : Nat × va_E) : (ws ++ cs).set (ws.length + j) x = ws ++ cs.set j x := by
  rw [List.set_append_right _ _ (Nat.le_add_right _ _), Nat.add_sub_cancel_left]
theorem oi_ok : Cond.instanceMethod Lib.objectInit ∈ mgood ∧ Cond.code Lib.objectInit ⟨#[0xb1]⟩ 1 none ∈ mgood := ⟨mg 19 (by decide +kernel) (by decide +kernel), mg 20 (by decide +kernel) (by decide +kernel)⟩
theorem ar_ok : Cond.arrayClass .int ∈ mgood ∧ Cond.arrayClass .long ∈ mgood := ⟨mg 60 (by decide +kernel) (by decide +kernel), mg 61 (by decide +kernel) (by decide +kernel)⟩
section KR
variable {p : Program} {l : Launch} {e : Env} {R : Room} {s : State} {m : MethodId} {args : Array Value} {below : List Frame} {meth : Method} {c : Code} {H : Heap} {locs : List Loc} {cells slots : Nat} {Q : State → Prop}
variable {D : va_G} {cA : Nat → ClassId} {A : Nat → Prop} {H0 : Heap} {ws cs : va_W} {cc : ByteArray} {pc nL : Nat} {own : String} {ls : Array Slot} {rest : List Value}
theorem k_oinit {idx a : Nat} (C : kC p s m args c cc nL own D cA A H0) (h0 : ls[0]? = some (.val (.ref a))) (hsz : ls.size = nL) (hlink : Cond.methodLink own idx Lib.objectInit ∈ mgood) (d0 : decode cc 0 = .ok (.aload_n 0, 1)) (d1 : decode cc 1 = .ok (.invokespecial idx, 3)) (hf : 1 ≤ R.frames) (hlo : 12 ≤ R.locals) (kk : W p l e R s m args below meth c H locs cells slots Q (F0 m 4 ls [])) : W p l e R s m args below meth c H locs cells slots Q (F0 m 0 ls []) := by
  obtain ⟨hx, hb, hml, hown, hts, hK, hN, hO, hA⟩ := C
  refine lv_aload_n hx hb d0 rfl h0 ?_
  refine W.objInit hx hb hown (hts _ hlink) (hts _ oi_ok.1) (hts _ oi_ok.2) rfl (by rw [hml]; exact hsz) rfl d1 hf hlo ?_
  exact W.eq (g2 := F0 m 4 ls []) rfl kk
theorem k_newI {n : Int32} {N' : Nat} (C : kC p s m args c cc nL own D cA A H0) (hw : kw D A ws cs H0 H locs) (hn : ¬ n < 0) (hN : n.toNatClampNeg = N') (hbytes : N' * 4 ≤ 536870912) (hc : cells + 1 ≤ R.cells) (hs : slots + N' ≤ R.slots) (hdg : decode cc pc = .ok (.newarray .int, 2)) (kk : ∀ (q : Nat) (H1 : Heap), kw D A ws (cs ++ [(q, .inl (cA 0, N', .inl (fun _ => 0)))]) H0 H1 locs → W p l e R s m args below meth c H1 locs (cells + 1) (slots + N') Q (F0 m (pc + 2) ls (.ref q :: rest))) : W p l e R s m args below meth c H locs cells slots Q (F0 m pc ls (.int n :: rest)) := by
  obtain ⟨hx, hb, hml, hown, hts, hK, hN1, hO, hA⟩ := C
  obtain ⟨hP, hD, hS⟩ := hw
  refine va_newa (atype := .int) (ty := .int) (a0 := (N', .inl (fun _ => 0))) hx hb (hts _ ar_ok.1) rfl hK hP hD hS hA (fun _ => rfl) hn hN hbytes hc hs hdg (fun q cA' H1 hK1 hP1 hD1 hS1 => ?_)
  have e1 : s.vm.findClass ("[" ++ FieldType.int.toString) = some cA' := (hK1.2 3 (cA', .int) rfl).2
  have e2 : s.vm.findClass ("[" ++ FieldType.int.toString) = some (cA 0) := (hK.2 0 (cA 0, .int) rfl).2
  have e3 : cA' = cA 0 := Option.some.inj (e1.symm.trans e2)
  rw [e3, List.append_assoc] at hP1 hD1
  exact kk q H1 ⟨hP1, hD1, hS1⟩
theorem k_newL {n : Int32} {N' : Nat} (C : kC p s m args c cc nL own D cA A H0) (hw : kw D A ws cs H0 H locs) (hn : ¬ n < 0) (hN : n.toNatClampNeg = N') (hbytes : N' * 8 ≤ 536870912) (hc : cells + 1 ≤ R.cells) (hs : slots + N' ≤ R.slots) (hdg : decode cc pc = .ok (.newarray .long, 2)) (kk : ∀ (q : Nat) (H1 : Heap), kw D A ws (cs ++ [(q, .inl (cA 1, N', .inr (.inl (fun _ => 0))))]) H0 H1 locs → W p l e R s m args below meth c H1 locs (cells + 1) (slots + N') Q (F0 m (pc + 2) ls (.ref q :: rest))) : W p l e R s m args below meth c H locs cells slots Q (F0 m pc ls (.int n :: rest)) := by
  obtain ⟨hx, hb, hml, hown, hts, hK, hN1, hO, hA⟩ := C
  obtain ⟨hP, hD, hS⟩ := hw
  refine va_newa (atype := .long) (ty := .long) (a0 := (N', .inr (.inl (fun _ => 0)))) hx hb (hts _ ar_ok.2) rfl hK hP hD hS hA (fun _ => rfl) hn hN hbytes hc hs hdg (fun q cA' H1 hK1 hP1 hD1 hS1 => ?_)
  have e1 : s.vm.findClass ("[" ++ FieldType.long.toString) = some cA' := (hK1.2 3 (cA', .long) rfl).2
  have e2 : s.vm.findClass ("[" ++ FieldType.long.toString) = some (cA 1) := (hK.2 1 (cA 1, .long) rfl).2
  have e3 : cA' = cA 1 := Option.some.inj (e1.symm.trans e2)
  rw [e3, List.append_assoc] at hP1 hD1
  exact kk q H1 ⟨hP1, hD1, hS1⟩
theorem k_newq {n : Int32} {N' index : Nat} (C : kC p s m args c cc nL own D cA A H0) (hw : kw D A ws cs H0 H locs) (hcl : Cond.classLink own index "CommitIndex$Sheet" ∈ mgood) (hn : ¬ n < 0) (hN : n.toNatClampNeg = N') (hbytes : N' * 4 ≤ 536870912) (hc : cells + 1 ≤ R.cells) (hs : slots + N' ≤ R.slots) (hdg : decode cc pc = .ok (.anewarray index, 3)) (kk : ∀ (q : Nat) (H1 : Heap), kw D A ws (cs ++ [(q, .inl (cA 2, N', .inr (.inr (.inr (.inr (fun _ => none))))))]) H0 H1 locs → W p l e R s m args below meth c H1 locs (cells + 1) (slots + N') Q (F0 m (pc + 3) ls (.ref q :: rest))) : W p l e R s m args below meth c H locs cells slots Q (F0 m pc ls (.int n :: rest)) := by
  obtain ⟨hx, hb, hml, hown, hts, hK, hN1, hO, hA⟩ := C
  obtain ⟨hP, hD, hS⟩ := hw
  refine va_newq hx hb hown (hts _ hcl) hO hK hP hD hS hA hn hN hbytes hc hs hdg (fun q cA' H1 hK1 hP1 hD1 hS1 => ?_)
  obtain ⟨-, -, -, -, -, -, e1⟩ := hK1.2 3 (cA', .object "CommitIndex$Sheet") rfl
  obtain ⟨-, -, -, -, -, -, e2⟩ := hK.2 2 (cA 2, .object "CommitIndex$Sheet") rfl
  have e3 : cA' = cA 2 := Option.some.inj (e1.symm.trans e2)
  rw [e3, List.append_assoc] at hP1 hD1
  exact kk q H1 ⟨hP1, hD1, hS1⟩
theorem k_new {C' : String} {T : u_T} {N ci index : Nat} {fs : List Value} (ty : Nat → FieldType) (hty : ∀ k, k < N → parseFieldDescriptor (T k).2.2.1 = some (ty k)) (C : kC p s m args c cc nL own D cA A H0) (hw : kw D A ws cs H0 H locs) (hc : vwCl[ci]? = some (C', T, N)) (hcl : Cond.classLink own index C' ∈ mgood) (hinst : Cond.instantiable C' N ∈ mgood) (hini : Cond.initialized C' ∈ mgood) (hfs : ∀ j, j < N → defaultValue (ty j) = vp_V fs j) (hcells : cells + 1 ≤ R.cells) (hslots : slots + N ≤ R.slots) (hdg : decode cc pc = .ok (.new index, 3)) (kk : ∀ (q : Nat) (H1 : Heap), kw D A ws (cs ++ [(q, .inr (ci, fs))]) H0 H1 locs → W p l e R s m args below meth c H1 locs (cells + 1) (slots + N) Q (F0 m (pc + 3) ls (.ref q :: rest))) : W p l e R s m args below meth c H locs cells slots Q (F0 m pc ls rest) := by
  obtain ⟨hx, hb, hml, hown, hts, hK, hN1, hO, hA⟩ := C
  obtain ⟨hP, hD, hS⟩ := hw
  refine va_new (fs := fs) hx hb hts (cls_ok _ _ hc).1 ty hty hown (hts _ hcl) (hts _ hinst) (hts _ hini) hK hP hD hS hA hc hfs hcells hslots hdg (fun q H1 hP1 hD1 hS1 => ?_)
  rw [List.append_assoc] at hP1 hD1
  exact kk q H1 ⟨hP1, hD1, hS1⟩
theorem k_putF {C' : String} {T : u_T} {N ci index j k a : Nat} {fs : List Value} {v : Value} {ty : FieldType} (C : kC p s m args c cc nL own D cA A H0) (hin : meth.name = "<init>") (hw : kw D A ws cs H0 H locs) (he : cs[j]? = some (a, .inr (ci, fs))) (hc : vwCl[ci]? = some (C', T, N)) (hk : k < N) (hlink : Cond.fieldLink own index (T k).1 (T k).2.1 (T k).2.2.1 ∈ mgood) (hfin : (T k).2.2.2 = true) (hdecl : (T k).1 = own) (hd : parseFieldDescriptor (T k).2.2.1 = some ty) (hn : narrow ty v = v) (hfit : fits ty v = true) (hl : k < fs.length) (hdg : decode cc pc = .ok (.putfield index, 3)) (kk : ∀ (H1 : Heap) (locs1 : List Loc), kw D A ws (cs.set j (a, .inr (ci, fs.set k v))) H0 H1 locs1 → W p l e R s m args below meth c H1 locs1 cells slots Q (F0 m (pc + 3) ls rest)) : W p l e R s m args below meth c H locs cells slots Q (F0 m pc ls (v :: .ref a :: rest)) := by
  obtain ⟨hx, hb, hml, hown, hts, hK, hN1, hO, hA⟩ := C
  obtain ⟨hP, hD, hS⟩ := hw
  obtain ⟨c1, c2, c3, ty0, c4⟩ := cls_ok _ _ hc
  refine va_putF (v := v) (ty := ty) hx hb hts c1 ty0 c4 c2 hown hK hP hD hS (ws.length + j) (kAt he) hc k hk (hts _ hlink) (fun _ z => z) hfin hin hdecl hd hn hfit hl hdg (fun H1 locs1 hP1 hD1 hS1 => ?_)
  rw [kSet] at hP1 hD1
  exact kk H1 locs1 ⟨hP1, hD1, hS1⟩
theorem k_put {C' : String} {T : u_T} {N ci index j k a : Nat} {fs : List Value} {v : Value} {ty : FieldType} (C : kC p s m args c cc nL own D cA A H0) (hw : kw D A ws cs H0 H locs) (he : cs[j]? = some (a, .inr (ci, fs))) (hc : vwCl[ci]? = some (C', T, N)) (hk : k < N) (hlink : Cond.fieldLink own index (T k).1 (T k).2.1 (T k).2.2.1 ∈ mgood) (hfin : (T k).2.2.2 = false) (hd : parseFieldDescriptor (T k).2.2.1 = some ty) (hn : narrow ty v = v) (hfit : fits ty v = true) (hl : k < fs.length) (hdg : decode cc pc = .ok (.putfield index, 3)) (kk : ∀ (H1 : Heap) (locs1 : List Loc), kw D A ws (cs.set j (a, .inr (ci, fs.set k v))) H0 H1 locs1 → W p l e R s m args below meth c H1 locs1 cells slots Q (F0 m (pc + 3) ls rest)) : W p l e R s m args below meth c H locs cells slots Q (F0 m pc ls (v :: .ref a :: rest)) := by
  obtain ⟨hx, hb, hml, hown, hts, hK, hN1, hO, hA⟩ := C
  obtain ⟨hP, hD, hS⟩ := hw
  obtain ⟨c1, c2, c3, ty0, c4⟩ := cls_ok _ _ hc
  refine va_put (v := v) (ty := ty) hx hb hts c1 ty0 c4 c2 hown hK hP hD hS (ws.length + j) (kAt he) hc k hk (hts _ hlink) (fun _ z => z) hfin hd hn hfit hl hdg (fun H1 locs1 hP1 hD1 hS1 => ?_)
  rw [kSet] at hP1 hD1
  exact kk H1 locs1 ⟨hP1, hD1, hS1⟩
theorem k_get {C' : String} {T : u_T} {N ci index j k a : Nat} {fs : List Value} {v : Value} (C : kC p s m args c cc nL own D cA A H0) (hw : kw D A ws cs H0 H locs) (he : cs[j]? = some (a, .inr (ci, fs))) (hc : vwCl[ci]? = some (C', T, N)) (hk : k < N) (hlink : Cond.fieldLink own index (T k).1 (T k).2.1 (T k).2.2.1 ∈ mgood) (hv : fs[k]? = some v) (hdg : decode cc pc = .ok (.getfield index, 3)) (kk : W p l e R s m args below meth c H locs cells slots Q (F0 m (pc + 3) ls (v :: rest))) : W p l e R s m args below meth c H locs cells slots Q (F0 m pc ls (.ref a :: rest)) := by
  obtain ⟨hx, hb, hml, hown, hts, hK, hN1, hO, hA⟩ := C
  obtain ⟨c1, c2, c3, ty0, c4⟩ := cls_ok _ _ hc
  exact va_get (v := v) hx hb hts c1 hown hK hw.1 (ws.length + j) (kAt he) hc k hk (hts _ hlink) (fun _ z => z) hv hdg kk
theorem k_iast {j a n : Nat} {f : Nat → Int32} {i x : Int32} (C : kC p s m args c cc nL own D cA A H0) (hw : kw D A ws cs H0 H locs) (he : cs[j]? = some (a, .inl (cA 0, n, .inl f))) (hin : vp_in i n) (hdg : decode cc pc = .ok (.iastore, 1)) (kk : ∀ (H1 : Heap) (locs1 : List Loc), kw D A ws (cs.set j (a, .inl (cA 0, n, .inl (upd f i.toNatClampNeg x)))) H0 H1 locs1 → W p l e R s m args below meth c H1 locs1 cells slots Q (F0 m (pc + 1) ls rest)) : W p l e R s m args below meth c H locs cells slots Q (F0 m pc ls (.int x :: .int i :: .ref a :: rest)) := by
  obtain ⟨hx, hb, hml, hown, hts, hK, hN1, hO, hA⟩ := C
  obtain ⟨hP, hD, hS⟩ := hw
  refine va_iast hx hb hK hP hD hS (ws.length + j) 0 (kAt he) rfl hin hdg (fun H1 locs1 hP1 hD1 hS1 => ?_)
  rw [kSet] at hP1 hD1
  exact kk H1 locs1 ⟨hP1, hD1, hS1⟩
theorem k_astq {j jv a n v : Nat} {f : Nat → Option Nat} {i : Int32} {vs : List Value} (C : kC p s m args c cc nL own D cA A H0) (hw : kw D A ws cs H0 H locs) (he : cs[j]? = some (a, .inl (cA 2, n, .inr (.inr (.inr (.inr f)))))) (hv : cs[jv]? = some (v, .inr (6, vs))) (hin : vp_in i n) (hdg : decode cc pc = .ok (.aastore, 1)) (kk : ∀ (H1 : Heap) (locs1 : List Loc), kw D A ws (cs.set j (a, .inl (cA 2, n, .inr (.inr (.inr (.inr (va_up f i.toNatClampNeg (some v)))))))) H0 H1 locs1 → W p l e R s m args below meth c H1 locs1 cells slots Q (F0 m (pc + 1) ls rest)) : W p l e R s m args below meth c H locs cells slots Q (F0 m pc ls (.ref v :: .int i :: .ref a :: rest)) := by
  obtain ⟨hx, hb, hml, hown, hts, hK, hN1, hO, hA⟩ := C
  obtain ⟨hP, hD, hS⟩ := hw
  refine va_astq (r := (RX6, TX6, 3)) hx hb hK hP hD hS (ws.length + j) 2 (ws.length + jv) 6 (kAt he) rfl (kAt hv) rfl hin hdg (fun H1 locs1 hP1 hD1 hS1 => ?_)
  rw [kSet] at hP1 hD1
  exact kk H1 locs1 ⟨hP1, hD1, hS1⟩
end KR
/-! A constructor's contract. -/
def kPc (D : va_G) (cA : Nat → ClassId) (A : Nat → Prop) (ws : va_W) (av : List Value) (sz : Nat) : Array Value → State → Prop := va_Pc av (fun U => U.heap.size = sz ∧ va_P D vwCl ws U.heap ∧ va_K D vwCl (mtys cA) U ∧ va_D A ws ∧ (∀ q, sz ≤ q → A q) ∧ (∀ w ∈ mnest, va_Nw w U) ∧ va_AO "CommitIndex$Sheet" U)
def kB (D : va_G) (X : Nat → va_W → Prop) (A : Nat → Prop) (ws : va_W) (a : Nat) (H : Heap) : Prop := ∃ cs, X a cs ∧ va_P D vwCl (ws ++ cs) H ∧ va_D A (ws ++ cs)
def kQ (D : va_G) (X : Nat → va_W → Prop) (A : Nat → Prop) (ws : va_W) (a : Nat) : Array Value → State → Outcome → State → Prop := va_Qv (fun _ : Unit => True) (fun _ t => kB D X A ws a t.heap) A
def kMet (l : Launch) (D : va_G) (cA : Nat → ClassId) (y : MethodName) (b : ByteArray) (nL : Nat) (rm : Room) (ci : Nat) (fs : List Value) (X : Nat → va_W → Prop) : Prop := ∀ (A : Nat → Prop) (ws : va_W) (a sz : Nat), Met l y (Cond.code y b nL none :: mgood) rm (kPc D cA A (ws ++ [(a, .inr (ci, fs))]) [.ref a] sz) (kQ D X A ws a) rm.cells rm.slots A
theorem kPc_blind (D : va_G) (cA : Nat → ClassId) (A : Nat → Prop) (ws : va_W) (av : List Value) (sz : Nat) : FrameBlind (kPc D cA A ws av sz) := by
  intro a U g mk hq
  obtain ⟨q0, q1, qP, qK, qD, qA, qN, qO⟩ := hq
  refine ⟨q0, q1, qP, va_K.moved (u := U) (U := U.calling g mk a) (Vm.Alike.refl U.vm) qK, qD, qA, fun w hw => ?_, va_AO.moved (u := U) (U := U.calling g mk a) (Vm.Alike.refl U.vm) qO⟩
  obtain ⟨a1, i, x, h1, rfl⟩ := nest_form w hw
  exact va_Nw.same (u := U) (U := U.calling g mk a) rfl rfl (qN _ hw)
section KM
variable {p : Program} {l : Launch} {e : Env} {R : Room} {s : State} {m : MethodId} {args : Array Value} {below : List Frame} {meth : Method} {c : Code} {H : Heap} {locs : List Loc} {cells slots : Nat} {Q : State → Prop}
variable {D : va_G} {cA : Nat → ClassId} {A : Nat → Prop} {H0 : Heap} {ws cs : va_W} {cc : ByteArray} {pc nL : Nat} {own : String} {ls : Array Slot} {rest : List Value}
theorem kPc_of {av : List Value} (hP : va_P D vwCl ws H) (hD : va_D A ws) (hA : ∀ q, H.size ≤ q → A q) (hK : va_K D vwCl (mtys cA) s) (hN : ∀ w ∈ mnest, va_Nw w s) (hO : va_AO "CommitIndex$Sheet" s) : ∀ U : State, U.heap = H → s.WarmedH U.vm → kPc D cA A ws av H.size av.toArray U := by
  intro U hU hW
  refine ⟨rfl, by rw [hU], by rw [hU]; exact hP, va_K.moved hW.alike hK, hD, hA, fun w hw => ?_, va_AO.moved hW.alike hO⟩
  obtain ⟨a1, i, x, h1, rfl⟩ := nest_form w hw
  exact va_Nw.warmM hW (hN _ hw)
theorem kgood {y : MethodName} {b : ByteArray} {n : Nat} (h : Cond.code y b n none ∈ mgood) : GoodIn mgood (Cond.code y b n none :: mgood) := by
  intro w hw
  have h1 : w ∈ mgood := by
    rcases List.mem_cons.mp hw with rfl | h2
    · exact h
    · exact h2
  exact ⟨h1, good_of_word (List.mem_filter.mp h1).2⟩
def iniOK (y : MethodName) (b : ByteArray) (n : Nat) : Prop := Cond.initialized y.cls ∈ mgood ∧ Cond.code y b n none ∈ mgood ∧ Cond.instanceMethod y ∈ mgood ∧ y.name = "<init>" ∧ (y.cls ≠ "java/lang/invoke/MethodHandle" ∧ y.cls ≠ "java/lang/invoke/VarHandle" ∧ (parseMethodDescriptor y.desc).map (fun d => d.parameters.length) = some 0)
theorem k_callN {y : MethodName} {b' : ByteArray} {n' ci index a : Nat} {rm : Room} {fs : List Value} {X : Nat → va_W → Prop} (C : kC p s m args c cc nL own D cA A H0) (hM : kMet l D cA y b' n' rm ci fs X) (hw : kw D A ws (cs ++ [(a, .inr (ci, fs))]) H0 H locs) (hnest : Cond.methodLinkNest own index y "CommitIndex" ∈ mnest) (hi : iniOK y b' n') (hR : rm.frames + 1 ≤ R.frames ∧ 8 + (n' + 11) + rm.locals ≤ R.locals) (hfit : cells + rm.cells ≤ R.cells ∧ slots + rm.slots ≤ R.slots) (hls : ls.size = nL) (hcat : (rest.map fun v => v.category).sum ≤ 8) (hdg : decode cc pc = .ok (.invokespecial index, 3)) (kk : ∀ (cs1 : va_W) (H1 : Heap) (locs1 : List Loc), X a cs1 → kw D A ws (cs ++ cs1) H0 H1 locs1 → W p l e R s m args below meth c H1 locs1 (cells + rm.cells) (slots + rm.slots) Q (F0 m (pc + 3) ls rest)) : W p l e R s m args below meth c H locs cells slots Q (F0 m pc ls (.ref a :: rest)) := by
  obtain ⟨hx, hb, hml, hown, hts, hK, hN, hO, hA⟩ := C
  obtain ⟨hP, hD, hS⟩ := hw
  obtain ⟨hi1, hi2, hi3, hi4, hi5⟩ := hi
  rw [← List.append_assoc] at hP hD
  refine va_callv (va_runIN (As := []) (rest := rest) (b := a) (host := "CommitIndex") ⟨hx, hb, hml, hown, hts⟩ (hM A (ws ++ cs) a H.size) ⟨va_cnB 0 hts (kgood hi2) rfl rfl rfl (hN _ hnest) (hts _ hi1) hi5 hR, hi4, hts _ hi3⟩ ⟨kPc_blind D cA A _ _ _, kPc_of hP hD (fun q hq => hA q (Nat.le_trans hS.1 hq)) hK hN hO⟩ rfl rfl hls rfl (lv_room hcat) hdg hfit) hS (fun q _ h => h) (fun q h => h) (fun u t H1 locs1 ht hvm _ hB hz hk hS1 => ?_)
  obtain ⟨cs1, hX, hP1, hD1⟩ := hB
  rw [ht, List.append_assoc] at hP1
  rw [List.append_assoc] at hD1
  exact kk cs1 H1 locs1 hX ⟨hP1, hD1, hS1⟩
theorem k_callI {y : MethodName} {b' : ByteArray} {n' ci index a : Nat} {rm : Room} {fs : List Value} {X : Nat → va_W → Prop} (C : kC p s m args c cc nL own D cA A H0) (hM : kMet l D cA y b' n' rm ci fs X) (hw : kw D A ws (cs ++ [(a, .inr (ci, fs))]) H0 H locs) (hlink : Cond.methodLink own index y ∈ mgood) (hi : iniOK y b' n') (hR : rm.frames + 1 ≤ R.frames ∧ 8 + (n' + 11) + rm.locals ≤ R.locals) (hfit : cells + rm.cells ≤ R.cells ∧ slots + rm.slots ≤ R.slots) (hls : ls.size = nL) (hcat : (rest.map fun v => v.category).sum ≤ 8) (hdg : decode cc pc = .ok (.invokespecial index, 3)) (kk : ∀ (cs1 : va_W) (H1 : Heap) (locs1 : List Loc), X a cs1 → kw D A ws (cs ++ cs1) H0 H1 locs1 → W p l e R s m args below meth c H1 locs1 (cells + rm.cells) (slots + rm.slots) Q (F0 m (pc + 3) ls rest)) : W p l e R s m args below meth c H locs cells slots Q (F0 m pc ls (.ref a :: rest)) := by
  obtain ⟨hx, hb, hml, hown, hts, hK, hN, hO, hA⟩ := C
  obtain ⟨hP, hD, hS⟩ := hw
  obtain ⟨hi1, hi2, hi3, hi4, hi5⟩ := hi
  rw [← List.append_assoc] at hP hD
  refine va_callv (va_runI (As := []) (rest := rest) (b := a) ⟨hx, hb, hml, hown, hts⟩ (hM A (ws ++ cs) a H.size) (cwI 0 hts (kgood hi2) rfl rfl rfl (hts _ hi1) (hts _ hlink) (hts _ hi3) hi4 hi5 hR) ⟨kPc_blind D cA A _ _ _, kPc_of hP hD (fun q hq => hA q (Nat.le_trans hS.1 hq)) hK hN hO⟩ rfl rfl hls rfl (lv_room hcat) hdg hfit) hS (fun q _ h => h) (fun q h => h) (fun u t H1 locs1 ht hvm _ hB hz hk hS1 => ?_)
  obtain ⟨cs1, hX, hP1, hD1⟩ := hB
  rw [ht, List.append_assoc] at hP1
  rw [List.append_assoc] at hD1
  exact kk cs1 H1 locs1 hX ⟨hP1, hD1, hS1⟩
theorem k_ret {a : Nat} {X : Nat → va_W → Prop} (C : kC p s m args c cc nL own D cA A s.heap) (hr : meth.sig.returnType = none) (hlocks : meth.locks = false) (hX : X a cs) (hw : kw D A ws cs s.heap H locs) (hdg : decode cc pc = .ok (.return_, 1)) : W p l e R s m args below meth c H locs cells slots (MQ below (kQ D X A ws a) args s cells slots A) (F0 m pc ls []) := by
  obtain ⟨hx, hb, hml, hown, hts, hK, hN, hO, hA⟩ := C
  exact W.vret hx hb hr (fun t ht hW => ⟨⟨(), rfl, trivial, cs, hX, by rw [ht]; exact hw.1, hw.2.1⟩, hw.2.2.F ht⟩) hw.2.2.2.2 hdg hlocks
theorem k_met {y : MethodName} {b' : ByteArray} {n' ci : Nat} {rm : Room} {fs : List Value} {X : Nat → va_W → Prop} (hi : iniOK y b' n') (hy : plainName y.cls = true) (hn : 1 ≤ n') (body : ∀ (p : Program) (e : Env) (s : State) (m : MethodId) (below : List Frame) (meth : Method) (c : Code) (A : Nat → Prop) (ws : va_W) (a : Nat) (ls : Array Slot), kC p s m #[.ref a] c b' n' y.cls D cA A s.heap → meth.name = "<init>" → meth.sig.returnType = none → meth.locks = false → lv_has ls n' [(0, .ref a)] → kw D A ws [(a, .inr (ci, fs))] s.heap s.heap [] → W p l e rm s m #[.ref a] below meth c s.heap [] 0 0 (MQ below (kQ D X A ws a) #[.ref a] s rm.cells rm.slots A) (F0 m 0 ls [])) : kMet l D cA y b' n' rm ci fs X := by
  intro A ws a sz
  refine Met.ofW (cc := b') (maxL := n') (ret := none) hy rfl ?_
  intro p e s m args below meth c s₁ B hml hv
  obtain ⟨rfl, hsz, hP, hK, hD, hA, hN, hO⟩ := hv
  subst hsz
  have hts := atoms_spec (ws := Cond.code y b' n' none :: mgood) B.pre
  have hown : s.vm.findClass y.cls = some m.cls := findClass_of_methodNamed B.named
  have hin : meth.name = "<init>" := (name_of_methodNamed B.named B.method).1.trans hi.2.2.2.1
  have hl := lv_entry ([.ref a]) (n := n') hn
  rw [lg_entry_eq]
  exact body p e s m below meth c A ws a _ ⟨B.exec, B.bytes, hml, hown, fun w hw => hts w (List.mem_cons_of_mem _ hw), hK, hN, hO, hA⟩ hin B.returns B.notSynchronized hl ⟨hP, hD, va_S.rf⟩
end KM
