/-! The law's switch and loop. -/
theorem and31 (x : Int32) : ∃ n, n < 32 ∧ x &&& 31 = nI n := by
  refine ⟨x.toBitVec.toNat % 32, Nat.mod_lt _ (by decide), Int32.toBitVec_inj.mp (BitVec.eq_of_toNat_eq ?_)⟩
  have e1 : (x &&& 31).toBitVec.toNat = x.toBitVec.toNat % 32 := by
    rw [Int32.toBitVec_and, BitVec.toNat_and]
    exact Nat.and_two_pow_sub_one_eq_mod x.toBitVec.toNat 5
  have e2 : (nI (x.toBitVec.toNat % 32)).toBitVec.toNat = x.toBitVec.toNat % 32 := by
    show (BitVec.ofNat 32 (x.toBitVec.toNat % 32)).toNat = _
    rw [BitVec.toNat_ofNat]
    exact Nat.mod_eq_of_lt (Nat.lt_of_lt_of_le (Nat.mod_lt _ (by decide)) (by decide))
  rw [e1, e2]
theorem sub6 {L q : Nat} (hL : L ≤ 3072) (hq : q ≤ 3072) : (nI L - 6 < nI q) ↔ L < q + 6 := by
  rw [Int32.lt_iff_toInt_lt, Int32.toInt_sub, nI_toInt (n := L) (by omega), nI_toInt (n := q) (by omega), show (6 : Int32).toInt = 6 from by decide]
  rw [Int.bmod_eq_of_le (by omega) (by omega)]
  omega
section LX
variable {p : Program} {l : Launch} {e : Env} {s : State} {m : MethodId} {args : Array Value} {below : List Frame} {meth : Method} {c : Code} {H : Heap} {locs : List Loc} {cells slots : Nat} {Q : State → Prop}
variable {D : va_G} {ad : Nat → Nat} {cA : Nat → ClassId} {A : Nat → Prop} {H0 : Heap} {b L q : Nat} {xs : Nat → Int32} {ls : Array Slot} {h : mH}
theorem law_sw (C : lawC p s m args c D ad cA A H0 b L xs) (hl : lawL ls ad b q) (hq : q + 6 ≤ L) (hw : mWd D ad cA A H0 h H locs) (hi : Inv h) (hfit : cells + 0 ≤ room_1.cells ∧ slots + 0 ≤ room_1.slots) (kk : ∀ (h2 : mH) (H1 : Heap) (locs1 : List Loc), Inv h2 → mWd D ad cA A H0 h2 H1 locs1 → W p l e room_1 s m args below meth c H1 locs1 cells slots Q (F0 m 1073 ls [])) : ∀ n : Nat, n < 32 → W p l e room_1 s m args below meth c H locs cells slots Q (F0 m 33 ls [.int (nI n)])
  | 0, _ => lv_tableIn (x := nI 0) (off := 135) (tgt := 168) C.1 C.2.1 dL_law_33 (by decide +kernel) (by decide +kernel) (by decide +kernel) (by decide) (lawc_168 C hl hq hw hi hfit kk)
  | 1, _ => lv_tableIn (x := nI 1) (off := 178) (tgt := 211) C.1 C.2.1 dL_law_33 (by decide +kernel) (by decide +kernel) (by decide +kernel) (by decide) (lawc_211 C hl hq hw hi hfit kk)
  | 2, _ => lv_tableIn (x := nI 2) (off := 191) (tgt := 224) C.1 C.2.1 dL_law_33 (by decide +kernel) (by decide +kernel) (by decide +kernel) (by decide) (lawc_224 C hl hq hw hi hfit kk)
  | 3, _ => lv_tableIn (x := nI 3) (off := 214) (tgt := 247) C.1 C.2.1 dL_law_33 (by decide +kernel) (by decide +kernel) (by decide +kernel) (by decide) (lawc_247 C hl hq hw hi hfit kk)
  | 4, _ => lv_tableIn (x := nI 4) (off := 227) (tgt := 260) C.1 C.2.1 dL_law_33 (by decide +kernel) (by decide +kernel) (by decide +kernel) (by decide) (lawc_260 C hl hq hw hi hfit kk)
  | 5, _ => lv_tableIn (x := nI 5) (off := 250) (tgt := 283) C.1 C.2.1 dL_law_33 (by decide +kernel) (by decide +kernel) (by decide +kernel) (by decide) (lawc_283 C hl hq hw hi hfit kk)
  | 6, _ => lv_tableIn (x := nI 6) (off := 283) (tgt := 316) C.1 C.2.1 dL_law_33 (by decide +kernel) (by decide +kernel) (by decide +kernel) (by decide) (lawc_316 C hl hq hw hi hfit kk)
  | 7, _ => lv_tableIn (x := nI 7) (off := 316) (tgt := 349) C.1 C.2.1 dL_law_33 (by decide +kernel) (by decide +kernel) (by decide +kernel) (by decide) (lawc_349 C hl hq hw hi hfit kk)
  | 8, _ => lv_tableIn (x := nI 8) (off := 340) (tgt := 373) C.1 C.2.1 dL_law_33 (by decide +kernel) (by decide +kernel) (by decide +kernel) (by decide) (lawc_373 C hl hq hw hi hfit kk)
  | 9, _ => lv_tableIn (x := nI 9) (off := 383) (tgt := 416) C.1 C.2.1 dL_law_33 (by decide +kernel) (by decide +kernel) (by decide +kernel) (by decide) (lawc_416 C hl hq hw hi hfit kk)
  | 10, _ => lv_tableIn (x := nI 10) (off := 417) (tgt := 450) C.1 C.2.1 dL_law_33 (by decide +kernel) (by decide +kernel) (by decide +kernel) (by decide) (lawc_450 C hl hq hw hi hfit kk)
  | 11, _ => lv_tableIn (x := nI 11) (off := 450) (tgt := 483) C.1 C.2.1 dL_law_33 (by decide +kernel) (by decide +kernel) (by decide +kernel) (by decide) (lawc_483 C hl hq hw hi hfit kk)
  | 12, _ => lv_tableIn (x := nI 12) (off := 484) (tgt := 517) C.1 C.2.1 dL_law_33 (by decide +kernel) (by decide +kernel) (by decide +kernel) (by decide) (lawc_517 C hl hq hw hi hfit kk)
  | 13, _ => lv_tableIn (x := nI 13) (off := 517) (tgt := 550) C.1 C.2.1 dL_law_33 (by decide +kernel) (by decide +kernel) (by decide +kernel) (by decide) (lawc_550 C hl hq hw hi hfit kk)
  | 14, _ => lv_tableIn (x := nI 14) (off := 550) (tgt := 583) C.1 C.2.1 dL_law_33 (by decide +kernel) (by decide +kernel) (by decide +kernel) (by decide) (lawc_583 C hl hq hw hi hfit kk)
  | 15, _ => lv_tableIn (x := nI 15) (off := 583) (tgt := 616) C.1 C.2.1 dL_law_33 (by decide +kernel) (by decide +kernel) (by decide +kernel) (by decide) (lawc_616 C hl hq hw hi hfit kk)
  | 16, _ => lv_tableIn (x := nI 16) (off := 606) (tgt := 639) C.1 C.2.1 dL_law_33 (by decide +kernel) (by decide +kernel) (by decide +kernel) (by decide) (lawc_639 C hl hq hw hi hfit kk)
  | 17, _ => lv_tableIn (x := nI 17) (off := 629) (tgt := 662) C.1 C.2.1 dL_law_33 (by decide +kernel) (by decide +kernel) (by decide +kernel) (by decide) (lawc_662 C hl hq hw hi hfit kk)
  | 18, _ => lv_tableIn (x := nI 18) (off := 652) (tgt := 685) C.1 C.2.1 dL_law_33 (by decide +kernel) (by decide +kernel) (by decide +kernel) (by decide) (lawc_685 C hl hq hw hi hfit kk)
  | 19, _ => lv_tableIn (x := nI 19) (off := 676) (tgt := 709) C.1 C.2.1 dL_law_33 (by decide +kernel) (by decide +kernel) (by decide +kernel) (by decide) (lawc_709 C hl hq hw hi hfit kk)
  | 20, _ => lv_tableIn (x := nI 20) (off := 689) (tgt := 722) C.1 C.2.1 dL_law_33 (by decide +kernel) (by decide +kernel) (by decide +kernel) (by decide) (lawc_722 C hl hq hw hi hfit kk)
  | 21, _ => lv_tableIn (x := nI 21) (off := 722) (tgt := 755) C.1 C.2.1 dL_law_33 (by decide +kernel) (by decide +kernel) (by decide +kernel) (by decide) (lawc_755 C hl hq hw hi hfit kk)
  | 22, _ => lv_tableIn (x := nI 22) (off := 735) (tgt := 768) C.1 C.2.1 dL_law_33 (by decide +kernel) (by decide +kernel) (by decide +kernel) (by decide) (lawc_768 C hl hq hw hi hfit kk)
  | 23, _ => lv_tableIn (x := nI 23) (off := 778) (tgt := 811) C.1 C.2.1 dL_law_33 (by decide +kernel) (by decide +kernel) (by decide +kernel) (by decide) (lawc_811 C hl hq hw hi hfit kk)
  | 24, _ => lv_tableIn (x := nI 24) (off := 801) (tgt := 834) C.1 C.2.1 dL_law_33 (by decide +kernel) (by decide +kernel) (by decide +kernel) (by decide) (lawc_834 C hl hq hw hi hfit kk)
  | 25, _ => lv_tableIn (x := nI 25) (off := 854) (tgt := 887) C.1 C.2.1 dL_law_33 (by decide +kernel) (by decide +kernel) (by decide +kernel) (by decide) (lawc_887 C hl hq hw hi hfit kk)
  | 26, _ => lv_tableIn (x := nI 26) (off := 897) (tgt := 930) C.1 C.2.1 dL_law_33 (by decide +kernel) (by decide +kernel) (by decide +kernel) (by decide) (lawc_930 C hl hq hw hi hfit kk)
  | 27, _ => lv_tableIn (x := nI 27) (off := 960) (tgt := 993) C.1 C.2.1 dL_law_33 (by decide +kernel) (by decide +kernel) (by decide +kernel) (by decide) (lawc_993 C hl hq hw hi hfit kk)
  | 28, _ => lv_tableIn (x := nI 28) (off := 1003) (tgt := 1036) C.1 C.2.1 dL_law_33 (by decide +kernel) (by decide +kernel) (by decide +kernel) (by decide) (lawc_1036 C hl hq hw hi hfit kk)
  | 29, _ => lv_tableIn (x := nI 29) (off := 1026) (tgt := 1059) C.1 C.2.1 dL_law_33 (by decide +kernel) (by decide +kernel) (by decide +kernel) (by decide) (lawc_1059 C hl hq hw hi hfit kk)
  | 30, _ => lv_tableOut (x := nI 30) (tgt := 1073) C.1 C.2.1 dL_law_33 (Or.inr (by decide +kernel)) (by decide) (kk h H locs hi hw)
  | 31, _ => lv_tableOut (x := nI 31) (tgt := 1073) C.1 C.2.1 dL_law_33 (Or.inr (by decide +kernel)) (by decide) (kk h H locs hi hw)
  | n + 32, h => absurd h (by omega)
theorem law_loop (C : lawC p s m args c D ad cA A H0 b L xs) (hfit : cells + 0 ≤ room_1.cells ∧ slots + 0 ≤ room_1.slots) (kend : ∀ (H1 : Heap) (locs1 : List Loc) (ls1 : Array Slot), va_S A H0 H1 locs1 → W p l e room_1 s m args below meth c H1 locs1 cells slots Q (F0 m 1079 ls1 [])) : ∀ (n q : Nat) (h : mH) (H : Heap) (locs : List Loc) (ls : Array Slot), q ≤ L → L < q + n → lawL ls ad b q → Inv h → mWd D ad cA A H0 h H locs → W p l e room_1 s m args below meth c H locs cells slots Q (F0 m 18 ls [])
  | 0, q, h, H, locs, ls, h1, h2, _, _, _ => absurd h2 (by omega)
  | n + 1, q, h, H, locs, ls, h1, h2, hl, hi, hw => by
    have C1 := C
    obtain ⟨hx, hb, hml, hown, hts, hK, hN, hA, hX, hbl, hbA, hL⟩ := C1
    refine lv_iload_n hx hb dL_law_18 rfl (lv_at hl 3 rfl) (lv_aload_n hx hb dL_law_19 rfl (lv_at hl 0 rfl) (va_slen hx hb hX hbl hbA hw.2 dL_law_20 (lv_bipush (v := 6) hx hb dL_law_21 (by decide) (lv_isub hx hb dL_law_23 (lv_icmp_gt (tgt := 1079) hx hb dL_law_24 (by decide) (fun _ => kend H locs ls hw.2) (fun hc => ?_))))))
    have hq : q + 6 ≤ L := by
      rcases Nat.lt_or_ge L (q + 6) with z | z
      · exact absurd ((sub6 hL (by omega)).mpr z) hc
      · exact z
    refine lv_aload_n hx hb dL_law_27 rfl (lv_at hl 0 rfl) (lv_iload_n hx hb dL_law_28 rfl (lv_at hl 3 rfl) (va_sld hx hb hX hbl hbA hw.2 (vp_in_nI (N := L) (by omega) (by omega)) dL_law_29 (lv_bipush (v := 31) hx hb dL_law_30 (by decide) (lv_iand hx hb dL_law_32 ?_))))
    obtain ⟨t, ht, et⟩ := and31 (xs (nI q).toNatClampNeg)
    rw [et]
    refine law_sw C hl hq hw hi hfit (fun h3 H3 locs3 i3 w3 => ?_) t ht
    refine lv_iinc (v := nI (q + 6)) (lv' := [(3, .int (nI (q + 6))), (0, .ref b), (1, .ref (ad 0)), (2, .ref (ad 27))]) hx hb dL_law_1073 hl (k := 3) rfl (by exact nI_add q 6) (by decide) rfl (fun ls3 hl3 => ?_)
    refine lv_goto (tgt := 18) hx hb dL_law_1076 (by decide) ?_
    exact law_loop C hfit kend n (q + 6) h3 H3 locs3 ls3 hq (by omega) (lv_sub hl3 [1, 2, 3, 0] rfl) i3 w3
end LX
