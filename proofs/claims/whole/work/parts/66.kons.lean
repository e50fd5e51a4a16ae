/-! Constructors of the nested classes. -/
theorem dK0_0 : decode cX0_init 0 = .ok (.aload_n 0, 1) := by decide +kernel
theorem dK0_1 : decode cX0_init 1 = .ok (.invokespecial 3, 3) := by decide +kernel
theorem dK0_4 : decode cX0_init 4 = .ok (.aload_n 0, 1) := by decide +kernel
theorem dK0_5 : decode cX0_init 5 = .ok (.iconst 2, 1) := by decide +kernel
theorem dK0_6 : decode cX0_init 6 = .ok (.putfield 9, 3) := by decide +kernel
theorem dK0_9 : decode cX0_init 9 = .ok (.aload_n 0, 1) := by decide +kernel
theorem dK0_10 : decode cX0_init 10 = .ok (.bipush 40, 2) := by decide +kernel
theorem dK0_12 : decode cX0_init 12 = .ok (.newarray .int, 2) := by decide +kernel
theorem dK0_14 : decode cX0_init 14 = .ok (.putfield 15, 3) := by decide +kernel
theorem dK0_17 : decode cX0_init 17 = .ok (.aload_n 0, 1) := by decide +kernel
theorem dK0_18 : decode cX0_init 18 = .ok (.bipush 40, 2) := by decide +kernel
theorem dK0_20 : decode cX0_init 20 = .ok (.newarray .int, 2) := by decide +kernel
theorem dK0_22 : decode cX0_init 22 = .ok (.putfield 19, 3) := by decide +kernel
theorem dK0_25 : decode cX0_init 25 = .ok (.return_, 1) := by decide +kernel
theorem iniK_0 : iniOK yX0_init cX0_init 1 := ⟨mg 7 (by decide +kernel) (by decide +kernel), mg 150 (by decide +kernel) (by decide +kernel), mg 149 (by decide +kernel) (by decide +kernel), rfl, by decide +kernel⟩
abbrev rK0 : Room := { frames := 1, cells := 2, slots := 80, locals := 12 }
def kX0 (cA : Nat → ClassId) (a : Nat) (cs : va_W) : Prop := ∃ q1 q2 : Nat, cs = [(a, .inr (0, [.long 0, .long 0, .int 2, .int 0, .ref q1, .ref q2, .int 0, .int 0, .long 0, .long 0, .long 0, .long 0])), (q1, .inl (cA 0, 40, .inl (fun _ => 0))), (q2, .inl (cA 0, 40, .inl (fun _ => 0)))]
set_option maxHeartbeats 4000000 in
set_option maxRecDepth 100000 in
theorem kmet_0 (l : Launch) (D : va_G) (cA : Nat → ClassId) : kMet l D cA yX0_init cX0_init 1 rK0 0 [.long 0, .long 0, .int 0, .int 0, .null, .null, .int 0, .int 0, .long 0, .long 0, .long 0, .long 0] (kX0 cA) := by
  refine k_met iniK_0 (by decide) (by decide) ?_
  intro p e s m below meth c A ws a ls C hin hr hlk hl hw
  refine k_oinit C (lv_at hl 0 rfl) hl.1 (mg 151 (by decide +kernel) (by decide +kernel)) dK0_0 dK0_1 (Nat.le_of_ble_eq_true rfl) (Nat.le_of_ble_eq_true rfl) ?_
  refine lv_aload_n C.1 C.2.1 dK0_4 rfl (lv_at hl 0 rfl) ?_
  refine lv_iconst (v := 2) C.1 C.2.1 dK0_5 (by decide) ?_
  refine k_put (ci := 0) (C' := RX0) (T := TX0) (N := 12) (j := 0) (k := 2) (a := a) (v := .int 2) (ty := .int) C hw rfl rfl (by decide) (mg 156 (by decide +kernel) (by decide +kernel)) rfl (tyX0_ok 2 (by decide)) rfl rfl (Nat.le_of_ble_eq_true rfl) dK0_6 (fun H locs hw => ?_)
  have hw : kw D A ws [(a, .inr (0, [.long 0, .long 0, .int 2, .int 0, .null, .null, .int 0, .int 0, .long 0, .long 0, .long 0, .long 0]))] s.heap H _ := hw
  refine lv_aload_n C.1 C.2.1 dK0_9 rfl (lv_at hl 0 rfl) ?_
  refine lv_bipush (v := 40) C.1 C.2.1 dK0_10 (by decide) ?_
  refine k_newI (n := 40) (N' := 40) C hw (by decide) (by decide) (Nat.le_of_ble_eq_true rfl) (Nat.le_of_ble_eq_true rfl) (Nat.le_of_ble_eq_true rfl) dK0_12 (fun q1 H hw => ?_)
  have hw : kw D A ws [(a, .inr (0, [.long 0, .long 0, .int 2, .int 0, .null, .null, .int 0, .int 0, .long 0, .long 0, .long 0, .long 0])), (q1, .inl (cA 0, 40, .inl (fun _ => 0)))] s.heap H _ := hw
  refine k_putF (ci := 0) (C' := RX0) (T := TX0) (N := 12) (j := 0) (k := 4) (a := a) (v := .ref q1) (ty := .array .int) C hin hw rfl rfl (by decide) (mg 160 (by decide +kernel) (by decide +kernel)) rfl rfl (tyX0_ok 4 (by decide)) rfl rfl (Nat.le_of_ble_eq_true rfl) dK0_14 (fun H locs hw => ?_)
  have hw : kw D A ws [(a, .inr (0, [.long 0, .long 0, .int 2, .int 0, .ref q1, .null, .int 0, .int 0, .long 0, .long 0, .long 0, .long 0])), (q1, .inl (cA 0, 40, .inl (fun _ => 0)))] s.heap H _ := hw
  refine lv_aload_n C.1 C.2.1 dK0_17 rfl (lv_at hl 0 rfl) ?_
  refine lv_bipush (v := 40) C.1 C.2.1 dK0_18 (by decide) ?_
  refine k_newI (n := 40) (N' := 40) C hw (by decide) (by decide) (Nat.le_of_ble_eq_true rfl) (Nat.le_of_ble_eq_true rfl) (Nat.le_of_ble_eq_true rfl) dK0_20 (fun q2 H hw => ?_)
  have hw : kw D A ws [(a, .inr (0, [.long 0, .long 0, .int 2, .int 0, .ref q1, .null, .int 0, .int 0, .long 0, .long 0, .long 0, .long 0])), (q1, .inl (cA 0, 40, .inl (fun _ => 0))), (q2, .inl (cA 0, 40, .inl (fun _ => 0)))] s.heap H _ := hw
  refine k_putF (ci := 0) (C' := RX0) (T := TX0) (N := 12) (j := 0) (k := 5) (a := a) (v := .ref q2) (ty := .array .int) C hin hw rfl rfl (by decide) (mg 161 (by decide +kernel) (by decide +kernel)) rfl rfl (tyX0_ok 5 (by decide)) rfl rfl (Nat.le_of_ble_eq_true rfl) dK0_22 (fun H locs hw => ?_)
  have hw : kw D A ws [(a, .inr (0, [.long 0, .long 0, .int 2, .int 0, .ref q1, .ref q2, .int 0, .int 0, .long 0, .long 0, .long 0, .long 0])), (q1, .inl (cA 0, 40, .inl (fun _ => 0))), (q2, .inl (cA 0, 40, .inl (fun _ => 0)))] s.heap H _ := hw
  refine W.widen (k := rK0.cells) (n := rK0.slots) (Nat.le_of_ble_eq_true rfl) (Nat.le_of_ble_eq_true rfl) ?_
  exact k_ret C hr hlk ⟨q1, q2, rfl⟩ hw dK0_25
theorem dK1_0 : decode cX1_init 0 = .ok (.aload_n 0, 1) := by decide +kernel
theorem dK1_1 : decode cX1_init 1 = .ok (.invokespecial 3, 3) := by decide +kernel
theorem dK1_4 : decode cX1_init 4 = .ok (.aload_n 0, 1) := by decide +kernel
theorem dK1_5 : decode cX1_init 5 = .ok (.bipush 40, 2) := by decide +kernel
theorem dK1_7 : decode cX1_init 7 = .ok (.newarray .int, 2) := by decide +kernel
theorem dK1_9 : decode cX1_init 9 = .ok (.putfield 9, 3) := by decide +kernel
theorem dK1_12 : decode cX1_init 12 = .ok (.aload_n 0, 1) := by decide +kernel
theorem dK1_13 : decode cX1_init 13 = .ok (.bipush 40, 2) := by decide +kernel
theorem dK1_15 : decode cX1_init 15 = .ok (.newarray .int, 2) := by decide +kernel
theorem dK1_17 : decode cX1_init 17 = .ok (.putfield 15, 3) := by decide +kernel
theorem dK1_20 : decode cX1_init 20 = .ok (.aload_n 0, 1) := by decide +kernel
theorem dK1_21 : decode cX1_init 21 = .ok (.bipush 40, 2) := by decide +kernel
theorem dK1_23 : decode cX1_init 23 = .ok (.newarray .int, 2) := by decide +kernel
theorem dK1_25 : decode cX1_init 25 = .ok (.putfield 18, 3) := by decide +kernel
theorem dK1_28 : decode cX1_init 28 = .ok (.aload_n 0, 1) := by decide +kernel
theorem dK1_29 : decode cX1_init 29 = .ok (.bipush 40, 2) := by decide +kernel
theorem dK1_31 : decode cX1_init 31 = .ok (.newarray .int, 2) := by decide +kernel
theorem dK1_33 : decode cX1_init 33 = .ok (.putfield 21, 3) := by decide +kernel
theorem dK1_36 : decode cX1_init 36 = .ok (.aload_n 0, 1) := by decide +kernel
theorem dK1_37 : decode cX1_init 37 = .ok (.bipush 40, 2) := by decide +kernel
theorem dK1_39 : decode cX1_init 39 = .ok (.newarray .long, 2) := by decide +kernel
theorem dK1_41 : decode cX1_init 41 = .ok (.putfield 24, 3) := by decide +kernel
theorem dK1_44 : decode cX1_init 44 = .ok (.aload_n 0, 1) := by decide +kernel
theorem dK1_45 : decode cX1_init 45 = .ok (.bipush 40, 2) := by decide +kernel
theorem dK1_47 : decode cX1_init 47 = .ok (.newarray .int, 2) := by decide +kernel
theorem dK1_49 : decode cX1_init 49 = .ok (.putfield 28, 3) := by decide +kernel
theorem dK1_52 : decode cX1_init 52 = .ok (.return_, 1) := by decide +kernel
theorem iniK_1 : iniOK yX1_init cX1_init 1 := ⟨mg 2 (by decide +kernel) (by decide +kernel), mg 25 (by decide +kernel) (by decide +kernel), mg 24 (by decide +kernel) (by decide +kernel), rfl, by decide +kernel⟩
abbrev rK1 : Room := { frames := 1, cells := 6, slots := 240, locals := 12 }
def kX1 (cA : Nat → ClassId) (a : Nat) (cs : va_W) : Prop := ∃ q1 q2 q3 q4 q5 q6 : Nat, cs = [(a, .inr (1, [.ref q1, .ref q2, .ref q3, .ref q4, .ref q5, .ref q6, .int 0, .int 0, .int 0])), (q1, .inl (cA 0, 40, .inl (fun _ => 0))), (q2, .inl (cA 0, 40, .inl (fun _ => 0))), (q3, .inl (cA 0, 40, .inl (fun _ => 0))), (q4, .inl (cA 0, 40, .inl (fun _ => 0))), (q5, .inl (cA 1, 40, .inr (.inl (fun _ => 0)))), (q6, .inl (cA 0, 40, .inl (fun _ => 0)))]
set_option maxHeartbeats 4000000 in
set_option maxRecDepth 100000 in
theorem kmet_1 (l : Launch) (D : va_G) (cA : Nat → ClassId) : kMet l D cA yX1_init cX1_init 1 rK1 1 [.null, .null, .null, .null, .null, .null, .int 0, .int 0, .int 0] (kX1 cA) := by
  refine k_met iniK_1 (by decide) (by decide) ?_
  intro p e s m below meth c A ws a ls C hin hr hlk hl hw
  refine k_oinit C (lv_at hl 0 rfl) hl.1 (mg 26 (by decide +kernel) (by decide +kernel)) dK1_0 dK1_1 (Nat.le_of_ble_eq_true rfl) (Nat.le_of_ble_eq_true rfl) ?_
  refine lv_aload_n C.1 C.2.1 dK1_4 rfl (lv_at hl 0 rfl) ?_
  refine lv_bipush (v := 40) C.1 C.2.1 dK1_5 (by decide) ?_
  refine k_newI (n := 40) (N' := 40) C hw (by decide) (by decide) (Nat.le_of_ble_eq_true rfl) (Nat.le_of_ble_eq_true rfl) (Nat.le_of_ble_eq_true rfl) dK1_7 (fun q1 H hw => ?_)
  have hw : kw D A ws [(a, .inr (1, [.null, .null, .null, .null, .null, .null, .int 0, .int 0, .int 0])), (q1, .inl (cA 0, 40, .inl (fun _ => 0)))] s.heap H _ := hw
  refine k_putF (ci := 1) (C' := RX1) (T := TX1) (N := 9) (j := 0) (k := 0) (a := a) (v := .ref q1) (ty := .array .int) C hin hw rfl rfl (by decide) (mg 27 (by decide +kernel) (by decide +kernel)) rfl rfl (tyX1_ok 0 (by decide)) rfl rfl (Nat.le_of_ble_eq_true rfl) dK1_9 (fun H locs hw => ?_)
  have hw : kw D A ws [(a, .inr (1, [.ref q1, .null, .null, .null, .null, .null, .int 0, .int 0, .int 0])), (q1, .inl (cA 0, 40, .inl (fun _ => 0)))] s.heap H _ := hw
  refine lv_aload_n C.1 C.2.1 dK1_12 rfl (lv_at hl 0 rfl) ?_
  refine lv_bipush (v := 40) C.1 C.2.1 dK1_13 (by decide) ?_
  refine k_newI (n := 40) (N' := 40) C hw (by decide) (by decide) (Nat.le_of_ble_eq_true rfl) (Nat.le_of_ble_eq_true rfl) (Nat.le_of_ble_eq_true rfl) dK1_15 (fun q2 H hw => ?_)
  have hw : kw D A ws [(a, .inr (1, [.ref q1, .null, .null, .null, .null, .null, .int 0, .int 0, .int 0])), (q1, .inl (cA 0, 40, .inl (fun _ => 0))), (q2, .inl (cA 0, 40, .inl (fun _ => 0)))] s.heap H _ := hw
  refine k_putF (ci := 1) (C' := RX1) (T := TX1) (N := 9) (j := 0) (k := 1) (a := a) (v := .ref q2) (ty := .array .int) C hin hw rfl rfl (by decide) (mg 28 (by decide +kernel) (by decide +kernel)) rfl rfl (tyX1_ok 1 (by decide)) rfl rfl (Nat.le_of_ble_eq_true rfl) dK1_17 (fun H locs hw => ?_)
  have hw : kw D A ws [(a, .inr (1, [.ref q1, .ref q2, .null, .null, .null, .null, .int 0, .int 0, .int 0])), (q1, .inl (cA 0, 40, .inl (fun _ => 0))), (q2, .inl (cA 0, 40, .inl (fun _ => 0)))] s.heap H _ := hw
  refine lv_aload_n C.1 C.2.1 dK1_20 rfl (lv_at hl 0 rfl) ?_
  refine lv_bipush (v := 40) C.1 C.2.1 dK1_21 (by decide) ?_
  refine k_newI (n := 40) (N' := 40) C hw (by decide) (by decide) (Nat.le_of_ble_eq_true rfl) (Nat.le_of_ble_eq_true rfl) (Nat.le_of_ble_eq_true rfl) dK1_23 (fun q3 H hw => ?_)
  have hw : kw D A ws [(a, .inr (1, [.ref q1, .ref q2, .null, .null, .null, .null, .int 0, .int 0, .int 0])), (q1, .inl (cA 0, 40, .inl (fun _ => 0))), (q2, .inl (cA 0, 40, .inl (fun _ => 0))), (q3, .inl (cA 0, 40, .inl (fun _ => 0)))] s.heap H _ := hw
  refine k_putF (ci := 1) (C' := RX1) (T := TX1) (N := 9) (j := 0) (k := 2) (a := a) (v := .ref q3) (ty := .array .int) C hin hw rfl rfl (by decide) (mg 29 (by decide +kernel) (by decide +kernel)) rfl rfl (tyX1_ok 2 (by decide)) rfl rfl (Nat.le_of_ble_eq_true rfl) dK1_25 (fun H locs hw => ?_)
  have hw : kw D A ws [(a, .inr (1, [.ref q1, .ref q2, .ref q3, .null, .null, .null, .int 0, .int 0, .int 0])), (q1, .inl (cA 0, 40, .inl (fun _ => 0))), (q2, .inl (cA 0, 40, .inl (fun _ => 0))), (q3, .inl (cA 0, 40, .inl (fun _ => 0)))] s.heap H _ := hw
  refine lv_aload_n C.1 C.2.1 dK1_28 rfl (lv_at hl 0 rfl) ?_
  refine lv_bipush (v := 40) C.1 C.2.1 dK1_29 (by decide) ?_
  refine k_newI (n := 40) (N' := 40) C hw (by decide) (by decide) (Nat.le_of_ble_eq_true rfl) (Nat.le_of_ble_eq_true rfl) (Nat.le_of_ble_eq_true rfl) dK1_31 (fun q4 H hw => ?_)
  have hw : kw D A ws [(a, .inr (1, [.ref q1, .ref q2, .ref q3, .null, .null, .null, .int 0, .int 0, .int 0])), (q1, .inl (cA 0, 40, .inl (fun _ => 0))), (q2, .inl (cA 0, 40, .inl (fun _ => 0))), (q3, .inl (cA 0, 40, .inl (fun _ => 0))), (q4, .inl (cA 0, 40, .inl (fun _ => 0)))] s.heap H _ := hw
  refine k_putF (ci := 1) (C' := RX1) (T := TX1) (N := 9) (j := 0) (k := 3) (a := a) (v := .ref q4) (ty := .array .int) C hin hw rfl rfl (by decide) (mg 30 (by decide +kernel) (by decide +kernel)) rfl rfl (tyX1_ok 3 (by decide)) rfl rfl (Nat.le_of_ble_eq_true rfl) dK1_33 (fun H locs hw => ?_)
  have hw : kw D A ws [(a, .inr (1, [.ref q1, .ref q2, .ref q3, .ref q4, .null, .null, .int 0, .int 0, .int 0])), (q1, .inl (cA 0, 40, .inl (fun _ => 0))), (q2, .inl (cA 0, 40, .inl (fun _ => 0))), (q3, .inl (cA 0, 40, .inl (fun _ => 0))), (q4, .inl (cA 0, 40, .inl (fun _ => 0)))] s.heap H _ := hw
  refine lv_aload_n C.1 C.2.1 dK1_36 rfl (lv_at hl 0 rfl) ?_
  refine lv_bipush (v := 40) C.1 C.2.1 dK1_37 (by decide) ?_
  refine k_newL (n := 40) (N' := 40) C hw (by decide) (by decide) (Nat.le_of_ble_eq_true rfl) (Nat.le_of_ble_eq_true rfl) (Nat.le_of_ble_eq_true rfl) dK1_39 (fun q5 H hw => ?_)
  have hw : kw D A ws [(a, .inr (1, [.ref q1, .ref q2, .ref q3, .ref q4, .null, .null, .int 0, .int 0, .int 0])), (q1, .inl (cA 0, 40, .inl (fun _ => 0))), (q2, .inl (cA 0, 40, .inl (fun _ => 0))), (q3, .inl (cA 0, 40, .inl (fun _ => 0))), (q4, .inl (cA 0, 40, .inl (fun _ => 0))), (q5, .inl (cA 1, 40, .inr (.inl (fun _ => 0))))] s.heap H _ := hw
  refine k_putF (ci := 1) (C' := RX1) (T := TX1) (N := 9) (j := 0) (k := 4) (a := a) (v := .ref q5) (ty := .array .long) C hin hw rfl rfl (by decide) (mg 31 (by decide +kernel) (by decide +kernel)) rfl rfl (tyX1_ok 4 (by decide)) rfl rfl (Nat.le_of_ble_eq_true rfl) dK1_41 (fun H locs hw => ?_)
  have hw : kw D A ws [(a, .inr (1, [.ref q1, .ref q2, .ref q3, .ref q4, .ref q5, .null, .int 0, .int 0, .int 0])), (q1, .inl (cA 0, 40, .inl (fun _ => 0))), (q2, .inl (cA 0, 40, .inl (fun _ => 0))), (q3, .inl (cA 0, 40, .inl (fun _ => 0))), (q4, .inl (cA 0, 40, .inl (fun _ => 0))), (q5, .inl (cA 1, 40, .inr (.inl (fun _ => 0))))] s.heap H _ := hw
  refine lv_aload_n C.1 C.2.1 dK1_44 rfl (lv_at hl 0 rfl) ?_
  refine lv_bipush (v := 40) C.1 C.2.1 dK1_45 (by decide) ?_
  refine k_newI (n := 40) (N' := 40) C hw (by decide) (by decide) (Nat.le_of_ble_eq_true rfl) (Nat.le_of_ble_eq_true rfl) (Nat.le_of_ble_eq_true rfl) dK1_47 (fun q6 H hw => ?_)
  have hw : kw D A ws [(a, .inr (1, [.ref q1, .ref q2, .ref q3, .ref q4, .ref q5, .null, .int 0, .int 0, .int 0])), (q1, .inl (cA 0, 40, .inl (fun _ => 0))), (q2, .inl (cA 0, 40, .inl (fun _ => 0))), (q3, .inl (cA 0, 40, .inl (fun _ => 0))), (q4, .inl (cA 0, 40, .inl (fun _ => 0))), (q5, .inl (cA 1, 40, .inr (.inl (fun _ => 0)))), (q6, .inl (cA 0, 40, .inl (fun _ => 0)))] s.heap H _ := hw
  refine k_putF (ci := 1) (C' := RX1) (T := TX1) (N := 9) (j := 0) (k := 5) (a := a) (v := .ref q6) (ty := .array .int) C hin hw rfl rfl (by decide) (mg 32 (by decide +kernel) (by decide +kernel)) rfl rfl (tyX1_ok 5 (by decide)) rfl rfl (Nat.le_of_ble_eq_true rfl) dK1_49 (fun H locs hw => ?_)
  have hw : kw D A ws [(a, .inr (1, [.ref q1, .ref q2, .ref q3, .ref q4, .ref q5, .ref q6, .int 0, .int 0, .int 0])), (q1, .inl (cA 0, 40, .inl (fun _ => 0))), (q2, .inl (cA 0, 40, .inl (fun _ => 0))), (q3, .inl (cA 0, 40, .inl (fun _ => 0))), (q4, .inl (cA 0, 40, .inl (fun _ => 0))), (q5, .inl (cA 1, 40, .inr (.inl (fun _ => 0)))), (q6, .inl (cA 0, 40, .inl (fun _ => 0)))] s.heap H _ := hw
  refine W.widen (k := rK1.cells) (n := rK1.slots) (Nat.le_of_ble_eq_true rfl) (Nat.le_of_ble_eq_true rfl) ?_
  exact k_ret C hr hlk ⟨q1, q2, q3, q4, q5, q6, rfl⟩ hw dK1_52
theorem dK2_0 : decode cX2_init 0 = .ok (.aload_n 0, 1) := by decide +kernel
theorem dK2_1 : decode cX2_init 1 = .ok (.invokespecial 3, 3) := by decide +kernel
theorem dK2_4 : decode cX2_init 4 = .ok (.aload_n 0, 1) := by decide +kernel
theorem dK2_5 : decode cX2_init 5 = .ok (.iconst 4, 1) := by decide +kernel
theorem dK2_6 : decode cX2_init 6 = .ok (.putfield 9, 3) := by decide +kernel
theorem dK2_9 : decode cX2_init 9 = .ok (.return_, 1) := by decide +kernel
theorem iniK_2 : iniOK yX2_init cX2_init 1 := ⟨mg 6 (by decide +kernel) (by decide +kernel), mg 127 (by decide +kernel) (by decide +kernel), mg 126 (by decide +kernel) (by decide +kernel), rfl, by decide +kernel⟩
abbrev rK2 : Room := { frames := 1, cells := 0, slots := 0, locals := 12 }
def kX2 (cA : Nat → ClassId) (a : Nat) (cs : va_W) : Prop := cs = [(a, .inr (2, [.int 4, .int 0, .int 0, .long 0]))]
set_option maxHeartbeats 4000000 in
set_option maxRecDepth 100000 in
theorem kmet_2 (l : Launch) (D : va_G) (cA : Nat → ClassId) : kMet l D cA yX2_init cX2_init 1 rK2 2 [.int 0, .int 0, .int 0, .long 0] (kX2 cA) := by
  refine k_met iniK_2 (by decide) (by decide) ?_
  intro p e s m below meth c A ws a ls C hin hr hlk hl hw
  refine k_oinit C (lv_at hl 0 rfl) hl.1 (mg 128 (by decide +kernel) (by decide +kernel)) dK2_0 dK2_1 (Nat.le_of_ble_eq_true rfl) (Nat.le_of_ble_eq_true rfl) ?_
  refine lv_aload_n C.1 C.2.1 dK2_4 rfl (lv_at hl 0 rfl) ?_
  refine lv_iconst (v := 4) C.1 C.2.1 dK2_5 (by decide) ?_
  refine k_put (ci := 2) (C' := RX2) (T := TX2) (N := 4) (j := 0) (k := 0) (a := a) (v := .int 4) (ty := .int) C hw rfl rfl (by decide) (mg 129 (by decide +kernel) (by decide +kernel)) rfl (tyX2_ok 0 (by decide)) rfl rfl (Nat.le_of_ble_eq_true rfl) dK2_6 (fun H locs hw => ?_)
  have hw : kw D A ws [(a, .inr (2, [.int 4, .int 0, .int 0, .long 0]))] s.heap H _ := hw
  refine W.widen (k := rK2.cells) (n := rK2.slots) (Nat.le_of_ble_eq_true rfl) (Nat.le_of_ble_eq_true rfl) ?_
  exact k_ret C hr hlk rfl hw dK2_9
theorem dK3_0 : decode cX3_init 0 = .ok (.aload_n 0, 1) := by decide +kernel
theorem dK3_1 : decode cX3_init 1 = .ok (.invokespecial 3, 3) := by decide +kernel
theorem dK3_4 : decode cX3_init 4 = .ok (.aload_n 0, 1) := by decide +kernel
theorem dK3_5 : decode cX3_init 5 = .ok (.bipush 40, 2) := by decide +kernel
theorem dK3_7 : decode cX3_init 7 = .ok (.newarray .int, 2) := by decide +kernel
theorem dK3_9 : decode cX3_init 9 = .ok (.putfield 9, 3) := by decide +kernel
theorem dK3_12 : decode cX3_init 12 = .ok (.return_, 1) := by decide +kernel
theorem iniK_3 : iniOK yX3_init cX3_init 1 := ⟨mg 3 (by decide +kernel) (by decide +kernel), mg 66 (by decide +kernel) (by decide +kernel), mg 65 (by decide +kernel) (by decide +kernel), rfl, by decide +kernel⟩
abbrev rK3 : Room := { frames := 1, cells := 1, slots := 40, locals := 12 }
def kX3 (cA : Nat → ClassId) (a : Nat) (cs : va_W) : Prop := ∃ q1 : Nat, cs = [(a, .inr (3, [.ref q1, .int 0, .int 0])), (q1, .inl (cA 0, 40, .inl (fun _ => 0)))]
set_option maxHeartbeats 4000000 in
set_option maxRecDepth 100000 in
theorem kmet_3 (l : Launch) (D : va_G) (cA : Nat → ClassId) : kMet l D cA yX3_init cX3_init 1 rK3 3 [.null, .int 0, .int 0] (kX3 cA) := by
  refine k_met iniK_3 (by decide) (by decide) ?_
  intro p e s m below meth c A ws a ls C hin hr hlk hl hw
  refine k_oinit C (lv_at hl 0 rfl) hl.1 (mg 67 (by decide +kernel) (by decide +kernel)) dK3_0 dK3_1 (Nat.le_of_ble_eq_true rfl) (Nat.le_of_ble_eq_true rfl) ?_
  refine lv_aload_n C.1 C.2.1 dK3_4 rfl (lv_at hl 0 rfl) ?_
  refine lv_bipush (v := 40) C.1 C.2.1 dK3_5 (by decide) ?_
  refine k_newI (n := 40) (N' := 40) C hw (by decide) (by decide) (Nat.le_of_ble_eq_true rfl) (Nat.le_of_ble_eq_true rfl) (Nat.le_of_ble_eq_true rfl) dK3_7 (fun q1 H hw => ?_)
  have hw : kw D A ws [(a, .inr (3, [.null, .int 0, .int 0])), (q1, .inl (cA 0, 40, .inl (fun _ => 0)))] s.heap H _ := hw
  refine k_putF (ci := 3) (C' := RX3) (T := TX3) (N := 3) (j := 0) (k := 0) (a := a) (v := .ref q1) (ty := .array .int) C hin hw rfl rfl (by decide) (mg 68 (by decide +kernel) (by decide +kernel)) rfl rfl (tyX3_ok 0 (by decide)) rfl rfl (Nat.le_of_ble_eq_true rfl) dK3_9 (fun H locs hw => ?_)
  have hw : kw D A ws [(a, .inr (3, [.ref q1, .int 0, .int 0])), (q1, .inl (cA 0, 40, .inl (fun _ => 0)))] s.heap H _ := hw
  refine W.widen (k := rK3.cells) (n := rK3.slots) (Nat.le_of_ble_eq_true rfl) (Nat.le_of_ble_eq_true rfl) ?_
  exact k_ret C hr hlk ⟨q1, rfl⟩ hw dK3_12
theorem dK4_0 : decode cX4_init 0 = .ok (.aload_n 0, 1) := by decide +kernel
theorem dK4_1 : decode cX4_init 1 = .ok (.invokespecial 3, 3) := by decide +kernel
theorem dK4_4 : decode cX4_init 4 = .ok (.return_, 1) := by decide +kernel
theorem iniK_4 : iniOK yX4_init cX4_init 1 := ⟨mg 4 (by decide +kernel) (by decide +kernel), mg 84 (by decide +kernel) (by decide +kernel), mg 83 (by decide +kernel) (by decide +kernel), rfl, by decide +kernel⟩
abbrev rK4 : Room := { frames := 1, cells := 0, slots := 0, locals := 12 }
def kX4 (cA : Nat → ClassId) (a : Nat) (cs : va_W) : Prop := cs = [(a, .inr (4, [.long 0, .long 0, .long 0, .long 0, .long 0, .long 0, .int 0]))]
set_option maxHeartbeats 4000000 in
set_option maxRecDepth 100000 in
theorem kmet_4 (l : Launch) (D : va_G) (cA : Nat → ClassId) : kMet l D cA yX4_init cX4_init 1 rK4 4 [.long 0, .long 0, .long 0, .long 0, .long 0, .long 0, .int 0] (kX4 cA) := by
  refine k_met iniK_4 (by decide) (by decide) ?_
  intro p e s m below meth c A ws a ls C hin hr hlk hl hw
  refine k_oinit C (lv_at hl 0 rfl) hl.1 (mg 85 (by decide +kernel) (by decide +kernel)) dK4_0 dK4_1 (Nat.le_of_ble_eq_true rfl) (Nat.le_of_ble_eq_true rfl) ?_
  refine W.widen (k := rK4.cells) (n := rK4.slots) (Nat.le_of_ble_eq_true rfl) (Nat.le_of_ble_eq_true rfl) ?_
  exact k_ret C hr hlk rfl hw dK4_4
theorem dK5_0 : decode cX5_init 0 = .ok (.aload_n 0, 1) := by decide +kernel
theorem dK5_1 : decode cX5_init 1 = .ok (.invokespecial 3, 3) := by decide +kernel
theorem dK5_4 : decode cX5_init 4 = .ok (.aload_n 0, 1) := by decide +kernel
theorem dK5_5 : decode cX5_init 5 = .ok (.bipush 40, 2) := by decide +kernel
theorem dK5_7 : decode cX5_init 7 = .ok (.newarray .long, 2) := by decide +kernel
theorem dK5_9 : decode cX5_init 9 = .ok (.putfield 9, 3) := by decide +kernel
theorem dK5_12 : decode cX5_init 12 = .ok (.aload_n 0, 1) := by decide +kernel
theorem dK5_13 : decode cX5_init 13 = .ok (.bipush 40, 2) := by decide +kernel
theorem dK5_15 : decode cX5_init 15 = .ok (.newarray .int, 2) := by decide +kernel
theorem dK5_17 : decode cX5_init 17 = .ok (.putfield 15, 3) := by decide +kernel
theorem dK5_20 : decode cX5_init 20 = .ok (.return_, 1) := by decide +kernel
theorem iniK_5 : iniOK yX5_init cX5_init 1 := ⟨mg 5 (by decide +kernel) (by decide +kernel), mg 114 (by decide +kernel) (by decide +kernel), mg 113 (by decide +kernel) (by decide +kernel), rfl, by decide +kernel⟩
abbrev rK5 : Room := { frames := 1, cells := 2, slots := 80, locals := 12 }
def kX5 (cA : Nat → ClassId) (a : Nat) (cs : va_W) : Prop := ∃ q1 q2 : Nat, cs = [(a, .inr (5, [.ref q1, .ref q2])), (q1, .inl (cA 1, 40, .inr (.inl (fun _ => 0)))), (q2, .inl (cA 0, 40, .inl (fun _ => 0)))]
set_option maxHeartbeats 4000000 in
set_option maxRecDepth 100000 in
theorem kmet_5 (l : Launch) (D : va_G) (cA : Nat → ClassId) : kMet l D cA yX5_init cX5_init 1 rK5 5 [.null, .null] (kX5 cA) := by
  refine k_met iniK_5 (by decide) (by decide) ?_
  intro p e s m below meth c A ws a ls C hin hr hlk hl hw
  refine k_oinit C (lv_at hl 0 rfl) hl.1 (mg 115 (by decide +kernel) (by decide +kernel)) dK5_0 dK5_1 (Nat.le_of_ble_eq_true rfl) (Nat.le_of_ble_eq_true rfl) ?_
  refine lv_aload_n C.1 C.2.1 dK5_4 rfl (lv_at hl 0 rfl) ?_
  refine lv_bipush (v := 40) C.1 C.2.1 dK5_5 (by decide) ?_
  refine k_newL (n := 40) (N' := 40) C hw (by decide) (by decide) (Nat.le_of_ble_eq_true rfl) (Nat.le_of_ble_eq_true rfl) (Nat.le_of_ble_eq_true rfl) dK5_7 (fun q1 H hw => ?_)
  have hw : kw D A ws [(a, .inr (5, [.null, .null])), (q1, .inl (cA 1, 40, .inr (.inl (fun _ => 0))))] s.heap H _ := hw
  refine k_putF (ci := 5) (C' := RX5) (T := TX5) (N := 2) (j := 0) (k := 0) (a := a) (v := .ref q1) (ty := .array .long) C hin hw rfl rfl (by decide) (mg 116 (by decide +kernel) (by decide +kernel)) rfl rfl (tyX5_ok 0 (by decide)) rfl rfl (Nat.le_of_ble_eq_true rfl) dK5_9 (fun H locs hw => ?_)
  have hw : kw D A ws [(a, .inr (5, [.ref q1, .null])), (q1, .inl (cA 1, 40, .inr (.inl (fun _ => 0))))] s.heap H _ := hw
  refine lv_aload_n C.1 C.2.1 dK5_12 rfl (lv_at hl 0 rfl) ?_
  refine lv_bipush (v := 40) C.1 C.2.1 dK5_13 (by decide) ?_
  refine k_newI (n := 40) (N' := 40) C hw (by decide) (by decide) (Nat.le_of_ble_eq_true rfl) (Nat.le_of_ble_eq_true rfl) (Nat.le_of_ble_eq_true rfl) dK5_15 (fun q2 H hw => ?_)
  have hw : kw D A ws [(a, .inr (5, [.ref q1, .null])), (q1, .inl (cA 1, 40, .inr (.inl (fun _ => 0)))), (q2, .inl (cA 0, 40, .inl (fun _ => 0)))] s.heap H _ := hw
  refine k_putF (ci := 5) (C' := RX5) (T := TX5) (N := 2) (j := 0) (k := 1) (a := a) (v := .ref q2) (ty := .array .int) C hin hw rfl rfl (by decide) (mg 117 (by decide +kernel) (by decide +kernel)) rfl rfl (tyX5_ok 1 (by decide)) rfl rfl (Nat.le_of_ble_eq_true rfl) dK5_17 (fun H locs hw => ?_)
  have hw : kw D A ws [(a, .inr (5, [.ref q1, .ref q2])), (q1, .inl (cA 1, 40, .inr (.inl (fun _ => 0)))), (q2, .inl (cA 0, 40, .inl (fun _ => 0)))] s.heap H _ := hw
  refine W.widen (k := rK5.cells) (n := rK5.slots) (Nat.le_of_ble_eq_true rfl) (Nat.le_of_ble_eq_true rfl) ?_
  exact k_ret C hr hlk ⟨q1, q2, rfl⟩ hw dK5_20
theorem dK6_0 : decode cX6_init 0 = .ok (.aload_n 0, 1) := by decide +kernel
theorem dK6_1 : decode cX6_init 1 = .ok (.invokespecial 3, 3) := by decide +kernel
theorem dK6_4 : decode cX6_init 4 = .ok (.aload_n 0, 1) := by decide +kernel
theorem dK6_5 : decode cX6_init 5 = .ok (.bipush 60, 2) := by decide +kernel
theorem dK6_7 : decode cX6_init 7 = .ok (.newarray .int, 2) := by decide +kernel
theorem dK6_9 : decode cX6_init 9 = .ok (.putfield 9, 3) := by decide +kernel
theorem dK6_12 : decode cX6_init 12 = .ok (.aload_n 0, 1) := by decide +kernel
theorem dK6_13 : decode cX6_init 13 = .ok (.iconst (-1), 1) := by decide +kernel
theorem dK6_14 : decode cX6_init 14 = .ok (.putfield 15, 3) := by decide +kernel
theorem dK6_17 : decode cX6_init 17 = .ok (.return_, 1) := by decide +kernel
theorem iniK_6 : iniOK yX6_init cX6_init 1 := ⟨mg 8 (by decide +kernel) (by decide +kernel), mg 200 (by decide +kernel) (by decide +kernel), mg 199 (by decide +kernel) (by decide +kernel), rfl, by decide +kernel⟩
abbrev rK6 : Room := { frames := 1, cells := 1, slots := 60, locals := 12 }
def kX6 (cA : Nat → ClassId) (a : Nat) (cs : va_W) : Prop := ∃ q1 : Nat, cs = [(a, .inr (6, [.ref q1, .int 0, .int (-1)])), (q1, .inl (cA 0, 60, .inl (fun _ => 0)))]
set_option maxHeartbeats 4000000 in
set_option maxRecDepth 100000 in
theorem kmet_6 (l : Launch) (D : va_G) (cA : Nat → ClassId) : kMet l D cA yX6_init cX6_init 1 rK6 6 [.null, .int 0, .int 0] (kX6 cA) := by
  refine k_met iniK_6 (by decide) (by decide) ?_
  intro p e s m below meth c A ws a ls C hin hr hlk hl hw
  refine k_oinit C (lv_at hl 0 rfl) hl.1 (mg 201 (by decide +kernel) (by decide +kernel)) dK6_0 dK6_1 (Nat.le_of_ble_eq_true rfl) (Nat.le_of_ble_eq_true rfl) ?_
  refine lv_aload_n C.1 C.2.1 dK6_4 rfl (lv_at hl 0 rfl) ?_
  refine lv_bipush (v := 60) C.1 C.2.1 dK6_5 (by decide) ?_
  refine k_newI (n := 60) (N' := 60) C hw (by decide) (by decide) (Nat.le_of_ble_eq_true rfl) (Nat.le_of_ble_eq_true rfl) (Nat.le_of_ble_eq_true rfl) dK6_7 (fun q1 H hw => ?_)
  have hw : kw D A ws [(a, .inr (6, [.null, .int 0, .int 0])), (q1, .inl (cA 0, 60, .inl (fun _ => 0)))] s.heap H _ := hw
  refine k_putF (ci := 6) (C' := RX6) (T := TX6) (N := 3) (j := 0) (k := 0) (a := a) (v := .ref q1) (ty := .array .int) C hin hw rfl rfl (by decide) (mg 202 (by decide +kernel) (by decide +kernel)) rfl rfl (tyX6_ok 0 (by decide)) rfl rfl (Nat.le_of_ble_eq_true rfl) dK6_9 (fun H locs hw => ?_)
  have hw : kw D A ws [(a, .inr (6, [.ref q1, .int 0, .int 0])), (q1, .inl (cA 0, 60, .inl (fun _ => 0)))] s.heap H _ := hw
  refine lv_aload_n C.1 C.2.1 dK6_12 rfl (lv_at hl 0 rfl) ?_
  refine lv_iconst (v := -1) C.1 C.2.1 dK6_13 (by decide) ?_
  refine k_put (ci := 6) (C' := RX6) (T := TX6) (N := 3) (j := 0) (k := 2) (a := a) (v := .int (-1)) (ty := .int) C hw rfl rfl (by decide) (mg 206 (by decide +kernel) (by decide +kernel)) rfl (tyX6_ok 2 (by decide)) rfl rfl (Nat.le_of_ble_eq_true rfl) dK6_14 (fun H locs hw => ?_)
  have hw : kw D A ws [(a, .inr (6, [.ref q1, .int 0, .int (-1)])), (q1, .inl (cA 0, 60, .inl (fun _ => 0)))] s.heap H _ := hw
  refine W.widen (k := rK6.cells) (n := rK6.slots) (Nat.le_of_ble_eq_true rfl) (Nat.le_of_ble_eq_true rfl) ?_
  exact k_ret C hr hlk ⟨q1, rfl⟩ hw dK6_17
