/-! The law from its entry. -/
theorem mnest_in : ∀ w ∈ mnest, w ∈ lw_tbl := List.forall_mem_cons.mpr ⟨List.mem_append_right _ (List.mem_of_getElem? (i := 23) (by decide +kernel)), List.forall_mem_cons.mpr ⟨List.mem_append_right _ (List.mem_of_getElem? (i := 64) (by decide +kernel)), List.forall_mem_cons.mpr ⟨List.mem_append_right _ (List.mem_of_getElem? (i := 82) (by decide +kernel)), List.forall_mem_cons.mpr ⟨List.mem_append_right _ (List.mem_of_getElem? (i := 112) (by decide +kernel)), List.forall_mem_cons.mpr ⟨List.mem_append_right _ (List.mem_of_getElem? (i := 125) (by decide +kernel)), List.forall_mem_cons.mpr ⟨List.mem_append_right _ (List.mem_of_getElem? (i := 148) (by decide +kernel)), List.forall_mem_cons.mpr ⟨List.mem_append_right _ (List.mem_of_getElem? (i := 198) (by decide +kernel)), List.forall_mem_cons.mpr ⟨List.mem_append_right _ (List.mem_of_getElem? (i := 269) (by decide +kernel)), List.forall_mem_cons.mpr ⟨List.mem_append_right _ (List.mem_of_getElem? (i := 288) (by decide +kernel)), List.forall_mem_cons.mpr ⟨List.mem_append_right _ (List.mem_of_getElem? (i := 361) (by decide +kernel)), List.forall_mem_cons.mpr ⟨List.mem_append_right _ (List.mem_of_getElem? (i := 395) (by decide +kernel)), List.forall_mem_cons.mpr ⟨List.mem_append_right _ (List.mem_of_getElem? (i := 409) (by decide +kernel)), List.forall_mem_cons.mpr ⟨List.mem_append_right _ (List.mem_of_getElem? (i := 417) (by decide +kernel)), List.forall_mem_cons.mpr ⟨List.mem_append_right _ (List.mem_of_getElem? (i := 462) (by decide +kernel)), List.forall_mem_cons.mpr ⟨List.mem_append_right _ (List.mem_of_getElem? (i := 487) (by decide +kernel)), List.forall_mem_cons.mpr ⟨List.mem_append_right _ (List.mem_of_getElem? (i := 488) (by decide +kernel)), List.forall_mem_cons.mpr ⟨List.mem_append_right _ (List.mem_of_getElem? (i := 535) (by decide +kernel)), fun _ h => absurd h List.not_mem_nil⟩⟩⟩⟩⟩⟩⟩⟩⟩⟩⟩⟩⟩⟩⟩⟩⟩
theorem inst_ok : ∀ (ci : Nat) (q : vw_C), vwCl[ci]? = some q → Cond.instantiable q.1 q.2.2 ∈ mgood := by
  intro ci q h
  match ci, h with
  | 0, h => cases h; exact mg 147 (by decide +kernel) (by decide +kernel)
  | 1, h => cases h; exact mg 22 (by decide +kernel) (by decide +kernel)
  | 2, h => cases h; exact mg 124 (by decide +kernel) (by decide +kernel)
  | 3, h => cases h; exact mg 63 (by decide +kernel) (by decide +kernel)
  | 4, h => cases h; exact mg 81 (by decide +kernel) (by decide +kernel)
  | 5, h => cases h; exact mg 111 (by decide +kernel) (by decide +kernel)
  | 6, h => cases h; exact mg 197 (by decide +kernel) (by decide +kernel)
  | 7, h => cases h; exact mg 14 (by decide +kernel) (by decide +kernel)
  | 8, h => cases h; exact mg 672 (by decide +kernel) (by decide +kernel)
  | n + 9, h => simp [vwCl] at h
theorem ao_in : Cond.arrayOver (.object "CommitIndex$Sheet") ∈ lw_tbl := List.mem_append_right _ (List.mem_of_getElem? (i := 196) (by decide +kernel))
theorem start_D {s : State} {args : Array Value} (hts : ∀ w ∈ mgood, w.before args s = true) : ∃ D : va_G, ∀ (ci : Nat) (q : vw_C), vwCl[ci]? = some q → u_Kn s q.1 q.2.1 q.2.2 (D.1 ci) (D.2 ci) := by
  have h : ∀ ci : Nat, ∃ d : ClassId × (Nat → Nat), ∀ q : vw_C, vwCl[ci]? = some q → u_Kn s q.1 q.2.1 q.2.2 d.1 d.2 := by
    intro ci
    cases hq : vwCl[ci]? with
    | none => exact ⟨(0, fun _ => 0), fun q h => by cases h⟩
    | some r =>
      obtain ⟨c0, i0, h0⟩ := u_known (C := r.1) (T := r.2.1) (N := r.2.2) (n := r.2.2) hts (cls_ok _ _ hq).1 (hts _ (inst_ok _ _ hq))
      exact ⟨(c0, i0), fun q h => by cases h; exact h0⟩
  exact ⟨(fun ci => (h ci).choose.1, fun ci => (h ci).choose.2), fun ci q hq => (h ci).choose_spec q hq⟩
theorem start_K {s : State} {args : Array Value} {D : va_G} (hts : ∀ w ∈ mgood, w.before args s = true) (hO : va_AO "CommitIndex$Sheet" s) (hKc : ∀ (ci : Nat) (q : vw_C), vwCl[ci]? = some q → u_Kn s q.1 q.2.1 q.2.2 (D.1 ci) (D.2 ci)) : ∃ cA : Nat → ClassId, va_K D vwCl (mtys cA) s := by
  obtain ⟨c0, k0, p0, f0, g0, e0⟩ := Cond.arrayClass_spec (hts _ ar_ok.1)
  obtain ⟨c1, k1, p1, f1, g1, e1⟩ := Cond.arrayClass_spec (hts _ ar_ok.2)
  obtain ⟨p2, c2, k2, h1, h2, h3, h4, h5⟩ := Cond.arrayOver_spec hO
  refine ⟨fun k => match k with | 0 => c0 | 1 => c1 | _ => c2, hKc, fun k q hq => ?_⟩
  match k, hq with
  | 0, hq => cases hq; exact ⟨fun N z => ⟨(fun k h => by cases h), k0, g0, p0, e0⟩, f0⟩
  | 1, hq => cases hq; exact ⟨fun N z => ⟨(fun k h => by cases h), k1, g1, p1, e1⟩, f1⟩
  | 2, hq => cases hq; exact ⟨fun N z => ⟨(fun k h => by cases h), k2, h3, p2, h4⟩, k2, p2, h3, h4, h1, h5⟩
  | n + 3, hq => simp [mtys] at hq
