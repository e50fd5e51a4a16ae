/-! A call out of the law's own body. -/
section LC
variable {p : Program} {l : Launch} {e : Env} {R : Room} {s : State} {m : MethodId} {args : Array Value} {below : List Frame} {meth : Method} {c : Code} {H : Heap} {locs : List Loc} {cells slots : Nat} {Q : State → Prop}
variable {D : va_G} {ad : Nat → Nat} {cA : Nat → ClassId} {A : Nat → Prop} {H0 : Heap}
theorem law_call {pc idx y a ci nL : Nat} {cc : ByteArray} {own : String} {as' rest : List Value} {ls : Array Slot} {h h' : mH} {v : Option Value} (hx : p.tables.exec = Jvm.exec) (hb : c.code = cc) (hml : c.maxLocals = nL) (hown : s.vm.findClass own = some m.cls) (hts : ∀ w ∈ mgood, w.before args s = true) (hK : va_K D vwCl (mtys cA) s) (hN : ∀ w ∈ mnest, va_Nw w s) (hA : mAd ad A H0) (hw : mWd D ad cA A H0 h H locs)
    (hlk : virOK own idx y ci) (hsh : shp a = (0, ci)) (hR : (mRm y).frames + 1 ≤ R.frames ∧ 8 + ((md y).2.2.1 + 11) + (mRm y).locals ≤ R.locals) (hfit : cells + 0 ≤ R.cells ∧ slots + 0 ≤ R.slots) (hwd : wds (.ref a :: as') ≤ (md y).2.2.1) (hln : as'.length = (md y).2.2.2.2.2.2.2.1) (hd : decode cc pc = .ok (.invokevirtual idx, 3)) (hls : ls.size = nL) (hcat : (rest.map fun v => v.category).sum ≤ 8)
    (hrt : Rt y (.ref a :: as') h = some (v, h'))
    (k : ∀ (H1 : Heap) (locs1 : List Loc), mWd D ad cA A H0 h' H1 locs1 → W p l e R s m args below meth c H1 locs1 cells slots Q (F0 m (pc + 3) ls ((v.map (cv ad)).toList ++ rest))) : W p l e R s m args below meth c H locs cells slots Q (F0 m pc ls ((as'.map (cv ad)).reverse ++ .ref (ad a) :: rest)) := by
  have hM := rt_met l D ad cA hA.1 hwd hrt
  obtain ⟨ok1, ⟨ok2, ok3, ok4, ok5, ok6⟩, ok7⟩ := md_ok y
  obtain ⟨g1, g2, g3, g4, T, N, g5⟩ := hlk
  have hrec := va_recv (q0 := a) (a := ad a) (ci := ci) hK hw.1 g5 (by rw [mwd_at _ _ _ (shp_lt hsh (by decide)), mcell_obj hsh])
  refine m_call (v := v) (h' := h') hA (va_runV (b := ad a) (C := (md y).1.cls) (As := as'.map (cv ad)) (rest := rest) (n := (md y).2.2.2.2.2.2.2.1) (bytes := (md y).2.1) (maxL := (md y).2.2.1) (ret := (md y).2.2.2.1) (nL := nL) (Ts := mgood) (own := own) ⟨hx, hb, hml, hown, hts⟩ (hM H.size) ⟨callB_of (ws' := mgood) _ hts (mws_good _) rfl rfl rfl (hts _ g2) (hts _ g1) ⟨ok3, ok4, ok5⟩ hR, hts _ g3, hts _ g4⟩ ⟨mPc_blind _ _ _ _ _ _, hrec, mPc_of (as := .ref a :: as') hw.1 hK hN⟩ rfl (by rw [List.length_map]; exact hln) hls rfl (lv_room hcat) hd hfit) hw.2 (fun H1 locs1 q1 q2 => k H1 locs1 ⟨q1, q2⟩)
end LC
