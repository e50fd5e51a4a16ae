/-! A MACHINE IN SMALL: a function over the bytecode itself, on a heap of which only the contents are told; its laws ('Ev') are equations. -/
abbrev mL : Type := List (Option Value)
abbrev mH : Type := (Nat → Nat → Int32) × (Nat → Nat → Int64)
def gI (h : mH) (k j : Nat) : Int32 := h.1 k j
def gJ (h : mH) (k j : Nat) : Int64 := h.2 k j
def sI (h : mH) (k j : Nat) (x : Int32) : mH := (fun a b => if a = k ∧ b = j then x else h.1 a b, h.2)
def sJ (h : mH) (k j : Nat) (x : Int64) : mH := (h.1, fun a b => if a = k ∧ b = j then x else h.2 a b)
def cpI (h : mH) (a sp b dp n : Nat) : mH := (fun p q => if p = b ∧ dp ≤ q ∧ q < dp + n then h.1 a (sp + (q - dp)) else h.1 p q, h.2)
theorem gI_sI (h : mH) (k j : Nat) (x : Int32) (a b : Nat) : gI (sI h k j x) a b = if a = k ∧ b = j then x else gI h a b := rfl
theorem gJ_sJ (h : mH) (k j : Nat) (x : Int64) (a b : Nat) : gJ (sJ h k j x) a b = if a = k ∧ b = j then x else gJ h a b := rfl
theorem gI_sJ (h : mH) (k j : Nat) (x : Int64) (a b : Nat) : gI (sJ h k j x) a b = gI h a b := rfl
theorem gJ_sI (h : mH) (k j : Nat) (x : Int32) (a b : Nat) : gJ (sI h k j x) a b = gJ h a b := rfl
theorem gJ_cpI (h : mH) (k sp l dp n : Nat) (a b : Nat) : gJ (cpI h k sp l dp n) a b = gJ h a b := rfl
theorem gI_cpI (h : mH) (k sp l dp n : Nat) (a b : Nat) : gI (cpI h k sp l dp n) a b = if a = l ∧ dp ≤ b ∧ b < dp + n then gI h k (sp + (b - dp)) else gI h a b := rfl
theorem gI_same (h : mH) (k j : Nat) (x : Int32) : gI (sI h k j x) k j = x := by simp [gI_sI]
theorem gI_else {h : mH} {k j : Nat} {x : Int32} {a b : Nat} (q : ¬ (a = k ∧ b = j)) : gI (sI h k j x) a b = gI h a b := by rw [gI_sI, if_neg q]
theorem gJ_same (h : mH) (k j : Nat) (x : Int64) : gJ (sJ h k j x) k j = x := by simp [gJ_sJ]
theorem gJ_else {h : mH} {k j : Nat} {x : Int64} {a b : Nat} (q : ¬ (a = k ∧ b = j)) : gJ (sJ h k j x) a b = gJ h a b := by rw [gJ_sJ, if_neg q]
/-- places: (0, class) an object, (1, n) ints, (2, n) longs, (3, n) sheets -/
def shpL : List (Nat × Nat) := [(0, 7), (0, 1), (1, 40), (1, 40), (1, 40), (1, 40), (2, 40), (1, 40), (0, 3), (1, 40), (0, 4), (0, 5), (2, 40), (1, 40), (0, 2), (0, 0), (1, 40), (1, 40), (3, 4), (0, 6), (0, 6), (0, 6), (0, 6), (1, 60), (1, 60), (1, 60), (1, 60), (0, 8), (1, 4), (1, 4), (1, 240), (1, 60), (1, 40), (1, 40), (1, 40), (1, 40), (1, 40), (1, 40), (2, 40), (1, 40), (1, 40), (1, 40), (1, 40)]
def ftL : List (List (Nat × Nat)) := [[(1, 0), (1, 0), (0, 0), (0, 0), (2, 1), (2, 2), (0, 0), (0, 0), (1, 0), (1, 0), (1, 0), (1, 0)], [(2, 1), (2, 2), (2, 3), (2, 4), (2, 5), (2, 6), (0, 0), (0, 0), (0, 0)], [(0, 0), (0, 0), (0, 0), (1, 0)], [(2, 1), (0, 0), (0, 0)], [(1, 0), (1, 0), (1, 0), (1, 0), (1, 0), (1, 0), (0, 0)], [(2, 1), (2, 2)], [(2, 4), (0, 0), (0, 0)], [(2, 1), (2, 8), (2, 10), (2, 11), (2, 14), (2, 15), (2, 18), (0, 0)], [(2, 1), (2, 2), (2, 3), (2, 4), (0, 0), (0, 0), (2, 5), (2, 6), (2, 7), (2, 8), (0, 0), (0, 0), (2, 9), (0, 0), (0, 0), (0, 0), (1, 0), (1, 0), (2, 10), (0, 0), (2, 11), (2, 12), (0, 0), (0, 0), (2, 13), (2, 14), (2, 15), (1, 0), (1, 0), (1, 0), (1, 0)]]
def mnest : List Cond := [.methodLinkNest RX7 11 ⟨"CommitIndex$History", "<init>", "()V"⟩ "CommitIndex", .methodLinkNest RX7 18 ⟨"CommitIndex$Looking", "<init>", "()V"⟩ "CommitIndex", .methodLinkNest RX7 25 ⟨"CommitIndex$Painting", "<init>", "()V"⟩ "CommitIndex", .methodLinkNest RX7 32 ⟨"CommitIndex$Paths", "<init>", "()V"⟩ "CommitIndex", .methodLinkNest RX7 39 ⟨"CommitIndex$KeptSets", "<init>", "()V"⟩ "CommitIndex", .methodLinkNest RX7 46 ⟨"CommitIndex$Exchange", "<init>", "()V"⟩ "CommitIndex", .methodLinkNest RX7 57 ⟨"CommitIndex$Sheet", "<init>", "()V"⟩ "CommitIndex", .methodLinkNest RX1 54 ⟨"CommitIndex", "bit", "(I)J"⟩ "CommitIndex", .methodLinkNest RX0 26 ⟨"CommitIndex", "bit", "(I)J"⟩ "CommitIndex", .methodLinkNest RX1 79 ⟨"CommitIndex", "isIn", "(JI)Z"⟩ "CommitIndex", .methodLinkNest RX3 35 ⟨"CommitIndex", "bit", "(I)J"⟩ "CommitIndex", .methodLinkNest RX4 9 ⟨"CommitIndex", "bit", "(I)J"⟩ "CommitIndex", .methodLinkNest RX4 53 ⟨"CommitIndex", "isIn", "(JI)Z"⟩ "CommitIndex", .methodLinkNest RX2 25 ⟨"CommitIndex", "isIn", "(JI)Z"⟩ "CommitIndex", .methodLinkNest RX2 51 ⟨"CommitIndex", "bit", "(I)J"⟩ "CommitIndex", .methodLinkNest RX2 54 ⟨"CommitIndex", "greatestIn", "(J)I"⟩ "CommitIndex", .methodLinkNest RX0 81 ⟨"CommitIndex", "isIn", "(JI)Z"⟩ "CommitIndex"]
def shp (k : Nat) : Nat × Nat := shpL.getD k (9, 0)
def ftn (ci : Nat) : Nat := (ftL.getD ci []).length
def ft (ci j : Nat) : Nat × Nat := (ftL.getD ci []).getD j (0, 0)
/-- a method: name, bytes, locals, answer, class, frames, words, arguments, what its pool entries are: (entry, kind, a, b, c) -/
abbrev mD : Type := MethodName × ByteArray × Nat × Option FieldType × String × Nat × Nat × Nat × List (Nat × Nat × Nat × Nat × Int64)
def md_0 : mD := (yX7_add, cX7_add, 4, (some .int), RX7, 3, 66, 3, [(12, 2, 7, 0, 1), (62, 4, 127, 1, 0), (66, 4, 126, 1, 0), (70, 4, 128, 1, 0), (74, 0, 1, 6, 0)])
def md_1 : mD := (yX7_back, cX7_back, 1, (some .int), RX7, 2, 41, 0, [(12, 2, 7, 0, 1), (47, 2, 7, 5, 15), (74, 0, 1, 6, 0), (77, 0, 1, 7, 0), (80, 4, 129, 1, 0), (83, 4, 117, 0, 0)])
def md_2 : mD := (yX7_read, cX7_read, 8, (some .int), RX7, 3, 66, 1, [(12, 2, 7, 0, 1), (62, 4, 127, 1, 0), (66, 4, 126, 1, 0), (70, 4, 128, 1, 0), (87, 4, 38, 7, 0), (91, 4, 159, 6, 0), (94, 4, 37, 7, 0), (98, 0, 6, 2, 0), (101, 4, 164, 6, 0)])
def md_3 : mD := (yX7_seal, cX7_seal, 1, (some .int), RX7, 2, 43, 0, [(12, 2, 7, 0, 1), (74, 0, 1, 6, 0), (77, 0, 1, 7, 0), (104, 4, 130, 1, 0), (107, 0, 1, 8, 0)])
def md_4 : mD := (yX7_layer, cX7_layer, 2, (some .int), RX7, 1, 21, 1, [(12, 2, 7, 0, 1), (110, 4, 132, 1, 0)])
def md_5 : mD := (yX7_set, cX7_set, 4, (some .int), RX7, 0, 0, 2, [(40, 2, 7, 4, 14), (47, 2, 7, 5, 15), (113, 0, 2, 0, 0), (116, 0, 0, 2, 0), (119, 0, 0, 3, 0)])
def md_6 : mD := (yX7_commit, cX7_commit, 3, (some .int), RX7, 4, 86, 2, [(12, 2, 7, 0, 1), (122, 4, 125, 1, 0), (126, 4, 133, 1, 0), (129, 4, 134, 1, 0), (132, 4, 137, 1, 0), (135, 4, 138, 1, 0), (138, 3, 41, 0, 0), (142, 4, 142, 1, 0), (146, 4, 136, 1, 0)])
def md_7 : mD := (yX7_reach, cX7_reach, 2, (some .long), RX7, 2, 42, 1, [(12, 2, 7, 0, 1), (122, 4, 125, 1, 0), (149, 4, 139, 1, 0), (152, 8, 0, 0, (-9223372036854775806))])
def md_8 : mD := (yX7_look, cX7_look, 4, (some .int), RX7, 5, 121, 3, [(12, 2, 7, 0, 1), (19, 2, 7, 1, 8), (122, 4, 125, 1, 0), (154, 4, 151, 3, 0), (158, 12, 3, 2, 0), (162, 0, 3, 1, 0)])
def md_9 : mD := (yX7_bases, cX7_bases, 3, (some .long), RX7, 5, 112, 2, [(12, 2, 7, 0, 1), (26, 2, 7, 2, 10), (122, 4, 125, 1, 0), (152, 8, 0, 0, (-9223372036854775806)), (165, 4, 153, 4, 0), (169, 1, 4, 5, 0)])
def md_10 : mD := (yX7_paints, cX7_paints, 3, (some .int), RX7, 5, 112, 2, [(12, 2, 7, 0, 1), (26, 2, 7, 2, 10), (122, 4, 125, 1, 0), (165, 4, 153, 4, 0), (173, 0, 4, 6, 0)])
def md_11 : mD := (yX7_ways, cX7_ways, 3, (some .long), RX7, 3, 65, 2, [(12, 2, 7, 0, 1), (33, 2, 7, 3, 11), (122, 4, 125, 1, 0), (152, 8, 0, 0, (-9223372036854775806)), (174, 4, 155, 5, 0), (178, 4, 157, 5, 0)])
def md_12 : mD := (yX7_far, cX7_far, 3, (some .int), RX7, 3, 65, 2, [(12, 2, 7, 0, 1), (33, 2, 7, 3, 11), (122, 4, 125, 1, 0), (174, 4, 155, 5, 0), (181, 4, 158, 5, 0)])
def md_13 : mD := (yX7_kept, cX7_kept, 3, (some .int), RX7, 4, 90, 2, [(12, 2, 7, 0, 1), (40, 2, 7, 4, 14), (122, 4, 125, 1, 0), (184, 4, 146, 2, 0), (187, 4, 147, 2, 0), (191, 4, 148, 2, 0), (194, 4, 149, 2, 0)])
def md_14 : mD := (yX7_walk, cX7_walk, 3, (some .int), RX7, 4, 90, 2, [(12, 2, 7, 0, 1), (40, 2, 7, 4, 14), (122, 4, 125, 1, 0), (197, 4, 150, 2, 0), (200, 4, 15, 7, 0)])
def md_15 : mD := (yX7_walkPart, cX7_walkPart, 2, (some .int), RX7, 1, 21, 1, [(40, 2, 7, 4, 14), (203, 0, 2, 1, 0), (204, 0, 2, 2, 0), (207, 1, 2, 3, 0), (208, 3, 167, 0, 0)])
def md_16 : mD := (yX7_has, cX7_has, 2, (some .int), RX7, 2, 42, 1, [(12, 2, 7, 0, 1), (47, 2, 7, 5, 15), (122, 4, 125, 1, 0), (149, 4, 139, 1, 0), (208, 3, 167, 0, 0), (213, 1, 0, 0, 0)])
def md_17 : mD := (yX7_want, cX7_want, 2, (some .int), RX7, 2, 42, 1, [(12, 2, 7, 0, 1), (47, 2, 7, 5, 15), (122, 4, 125, 1, 0), (138, 3, 41, 0, 0), (208, 3, 167, 0, 0), (216, 1, 0, 1, 0), (219, 3, 42, 0, 0)])
def md_18 : mD := (yX7_clear, cX7_clear, 3, (some .int), RX7, 1, 21, 1, [(47, 2, 7, 5, 15), (208, 3, 167, 0, 0), (213, 1, 0, 0, 0), (216, 1, 0, 1, 0)])
def md_19 : mD := (yX7_sets, cX7_sets, 2, (some .long), RX7, 5, 113, 1, [(12, 2, 7, 0, 1), (47, 2, 7, 5, 15), (152, 8, 0, 0, (-9223372036854775806)), (223, 4, 118, 0, 0), (227, 4, 122, 0, 0)])
def md_20 : mD := (yX7_rounds, cX7_rounds, 1, (some .int), RX7, 5, 113, 0, [(12, 2, 7, 0, 1), (47, 2, 7, 5, 15), (223, 4, 118, 0, 0), (230, 0, 0, 7, 0)])
def md_21 : mD := (yX7_told, cX7_told, 3, (some .int), RX7, 5, 113, 2, [(12, 2, 7, 0, 1), (47, 2, 7, 5, 15), (223, 4, 118, 0, 0), (233, 4, 123, 0, 0)])
def md_22 : mD := (yX7_things, cX7_things, 1, (some .int), RX7, 5, 113, 0, [(12, 2, 7, 0, 1), (47, 2, 7, 5, 15), (223, 4, 118, 0, 0), (237, 4, 124, 0, 0)])
def md_23 : mD := (yX7_sheet, cX7_sheet, 5, (some .int), RX7, 2, 44, 3, [(87, 4, 38, 7, 0), (94, 4, 37, 7, 0), (241, 3, 39, 0, 0), (244, 4, 160, 6, 0)])
def md_24 : mD := (yX7_lose, cX7_lose, 4, (some .int), RX7, 1, 21, 1, [(87, 4, 38, 7, 0), (91, 4, 159, 6, 0), (94, 4, 37, 7, 0), (98, 0, 6, 2, 0)])
def md_25 : mD := (yX7_lay, cX7_lay, 7, (some .int), RX7, 2, 43, 4, [(87, 4, 38, 7, 0), (94, 4, 37, 7, 0), (241, 3, 39, 0, 0), (248, 4, 161, 6, 0), (251, 4, 165, 6, 0)])
def md_26 : mD := (yX7_get, cX7_get, 6, (some .int), RX7, 2, 43, 3, [(58, 0, 7, 7, 0), (87, 4, 38, 7, 0), (101, 4, 164, 6, 0), (241, 3, 39, 0, 0), (248, 4, 161, 6, 0), (254, 7, 0, 0, (-2147483648))])
def md_27 : mD := (yX7_copy, cX7_copy, 8, (some .int), RX7, 1, 26, 5, [(87, 4, 38, 7, 0), (91, 4, 159, 6, 0), (94, 4, 37, 7, 0), (255, 0, 6, 1, 0), (258, 4, 163, 6, 0), (262, 2, 6, 0, 4), (266, 11, 0, 0, 0)])
def md_28 : mD := (yX7_write, cX7_write, 7, (some .int), RX7, 5, 121, 3, [(12, 2, 7, 0, 1), (19, 2, 7, 1, 8), (87, 4, 38, 7, 0), (91, 4, 159, 6, 0), (94, 4, 37, 7, 0), (98, 0, 6, 2, 0), (122, 4, 125, 1, 0), (154, 4, 151, 3, 0), (162, 0, 3, 1, 0), (251, 4, 165, 6, 0), (272, 10, 0, 0, 0), (277, 4, 152, 3, 0)])
def md_29 : mD := (yX7_count, cX7_count, 2, (some .int), RX7, 5, 113, 1, [(12, 2, 7, 0, 1), (47, 2, 7, 5, 15), (223, 4, 118, 0, 0), (280, 4, 31, 7, 0)])
def md_30 : mD := (yX7_digest, cX7_digest, 4, (some .long), RX7, 6, 147, 0, [(12, 2, 7, 0, 1), (47, 2, 7, 5, 15), (74, 0, 1, 6, 0), (223, 4, 118, 0, 0), (283, 8, 0, 0, 17), (285, 4, 32, 7, 0), (289, 4, 33, 7, 0), (293, 4, 34, 7, 0), (296, 4, 35, 7, 0), (300, 4, 36, 7, 0)])
def md_31 : mD := (yX7_countPart, cX7_countPart, 2, (some .int), RX7, 1, 21, 1, [(12, 2, 7, 0, 1), (47, 2, 7, 5, 15), (58, 0, 7, 7, 0), (74, 0, 1, 6, 0), (77, 0, 1, 7, 0), (107, 0, 1, 8, 0), (208, 3, 167, 0, 0), (213, 1, 0, 0, 0), (216, 1, 0, 1, 0), (227, 4, 122, 0, 0), (230, 0, 0, 7, 0), (303, 0, 0, 6, 0)])
def md_32 : mD := (yX7_mixCounts, cX7_mixCounts, 6, (some .long), RX7, 2, 42, 1, [(12, 2, 7, 0, 1), (110, 4, 132, 1, 0), (280, 4, 31, 7, 0), (306, 3, 40, 0, 0)])
def md_33 : mD := (yX7_mixCommit, cX7_mixCommit, 7, (some .long), RX7, 5, 108, 2, [(12, 2, 7, 0, 1), (149, 4, 139, 1, 0), (306, 3, 40, 0, 0), (310, 4, 6, 7, 0)])
def md_34 : mD := (yX7_mixKept, cX7_mixKept, 7, (some .long), RX7, 5, 112, 2, [(12, 2, 7, 0, 1), (40, 2, 7, 4, 14), (197, 4, 150, 2, 0), (200, 4, 15, 7, 0), (306, 3, 40, 0, 0), (313, 4, 13, 7, 0)])
def md_35 : mD := (yX7_mixPairs, cX7_mixPairs, 7, (some .long), RX7, 5, 121, 3, [(12, 2, 7, 0, 1), (19, 2, 7, 1, 8), (26, 2, 7, 2, 10), (33, 2, 7, 3, 11), (154, 4, 151, 3, 0), (158, 12, 3, 2, 0), (162, 0, 3, 1, 0), (165, 4, 153, 4, 0), (169, 1, 4, 5, 0), (173, 0, 4, 6, 0), (174, 4, 155, 5, 0), (178, 4, 157, 5, 0), (181, 4, 158, 5, 0), (306, 3, 40, 0, 0)])
def md_36 : mD := (yX7_mixExchange, cX7_mixExchange, 7, (some .long), RX7, 4, 87, 1, [(12, 2, 7, 0, 1), (47, 2, 7, 5, 15), (227, 4, 122, 0, 0), (233, 4, 123, 0, 0), (237, 4, 124, 0, 0), (306, 3, 40, 0, 0)])
def md_37 : mD := (yX7_finding, cX7_finding, 2, (some .int), RX7, 0, 0, 1, [(58, 0, 7, 7, 0)])
def md_38 : mD := (yX7_sheetAt, cX7_sheetAt, 2, (some (.object "CommitIndex$Sheet")), RX7, 0, 0, 1, [(53, 2, 7, 6, 18)])
def md_39 : mD := (yX7_isForm, cX7_isForm, 1, (some .boolean), RX7, 0, 0, 1, [])
def md_40 : mD := (yX7_mix, cX7_mix, 4, (some .long), RX7, 0, 0, 2, [(316, 8, 0, 0, 31)])
def md_41 : mD := (yX7_bit, cX7_bit, 1, (some .long), RX7, 0, 0, 1, [])
def md_42 : mD := (yX7_isIn, cX7_isIn, 3, (some .boolean), RX7, 1, 20, 2, [(138, 3, 41, 0, 0)])
def md_43 : mD := (yX7_greatestIn, cX7_greatestIn, 3, (some .int), RX7, 2, 42, 1, [(219, 3, 42, 0, 0)])
def md_44 : mD := (yX8_in, cX8_in, 6, (some .boolean), RX8, 0, 0, 3, [])
def md_45 : mD := (yX8_no, cX8_no, 1, (some .long), RX8, 0, 0, 1, [(63, 8, 0, 0, (-9223372036854775808))])
def md_46 : mD := (yX8_isTwo, cX8_isTwo, 1, (some .boolean), RX8, 1, 25, 1, [(65, 3, 44, 0, 0)])
def md_47 : mD := (yX8_lesser, cX8_lesser, 2, (some .int), RX8, 0, 0, 2, [])
def md_48 : mD := (yX8_greater, cX8_greater, 2, (some .int), RX8, 0, 0, 2, [])
def md_49 : mD := (yX8_finds, cX8_finds, 2, (some .int), RX8, 0, 0, 1, [(69, 0, 8, 4, 0)])
def md_50 : mD := (yX8_isSheet, cX8_isSheet, 1, (some .boolean), RX8, 1, 25, 1, [(65, 3, 44, 0, 0), (72, 8, 0, 0, 3)])
def md_51 : mD := (yX8_sheet, cX8_sheet, 5, (some .int), RX8, 2, 45, 3, [(7, 2, 8, 0, 1), (13, 2, 8, 1, 2), (16, 2, 8, 2, 3), (65, 3, 44, 0, 0), (74, 3, 50, 0, 0), (78, 8, 0, 0, 2), (80, 4, 49, 8, 0)])
def md_52 : mD := (yX8_lose, cX8_lose, 2, (some .int), RX8, 2, 45, 1, [(7, 2, 8, 0, 1), (13, 2, 8, 1, 2), (74, 3, 50, 0, 0), (80, 4, 49, 8, 0)])
def md_53 : mD := (yX8_lacks, cX8_lacks, 4, (some .int), RX8, 1, 25, 3, [(7, 2, 8, 0, 1), (13, 2, 8, 1, 2), (65, 3, 44, 0, 0), (80, 4, 49, 8, 0)])
def md_54 : mD := (yX8_cut, cX8_cut, 2, (some .int), RX8, 0, 0, 2, [])
def md_55 : mD := (yX8_lay, cX8_lay, 6, (some .int), RX8, 2, 48, 4, [(16, 2, 8, 2, 3), (65, 3, 44, 0, 0), (74, 3, 50, 0, 0), (78, 8, 0, 0, 2), (84, 4, 53, 8, 0), (88, 3, 54, 0, 0)])
def md_56 : mD := (yX8_get, cX8_get, 4, (some .int), RX8, 2, 48, 3, [(16, 2, 8, 2, 3), (65, 3, 44, 0, 0), (74, 3, 50, 0, 0), (78, 8, 0, 0, 2), (84, 4, 53, 8, 0), (92, 7, 0, 0, (-2147483648))])
def md_57 : mD := (yX8_copy, cX8_copy, 7, (some .int), RX8, 2, 45, 5, [(7, 2, 8, 0, 1), (13, 2, 8, 1, 2), (16, 2, 8, 2, 3), (19, 2, 8, 3, 4), (74, 3, 50, 0, 0), (80, 4, 49, 8, 0)])
def md_58 : mD := (yX8_isCommit, cX8_isCommit, 2, (some .boolean), RX8, 1, 25, 1, [(65, 3, 44, 0, 0), (93, 0, 8, 5, 0)])
def md_59 : mD := (yX8_holds, cX8_holds, 3, (some .boolean), RX8, 0, 0, 2, [])
def md_60 : mD := (yX8_manyOf, cX8_manyOf, 4, (some .int), RX8, 1, 22, 1, [(96, 3, 59, 0, 0)])
def md_61 : mD := (yX8_isNew, cX8_isNew, 5, (some .boolean), RX8, 1, 25, 3, [(65, 3, 44, 0, 0), (93, 0, 8, 5, 0), (100, 8, 0, 0, (-1)), (102, 8, 0, 0, 1048575)])
def md_62 : mD := (yX8_add, cX8_add, 4, (some .int), RX8, 2, 49, 3, [(22, 2, 8, 6, 5), (25, 2, 8, 7, 6), (28, 2, 8, 8, 7), (31, 2, 8, 9, 8), (93, 0, 8, 5, 0), (104, 4, 61, 8, 0), (108, 3, 48, 0, 0)])
def md_63 : mD := (yX8_back, cX8_back, 1, (some .int), RX8, 0, 0, 0, [(93, 0, 8, 5, 0), (100, 8, 0, 0, (-1)), (111, 0, 8, 10, 0), (114, 1, 8, 16, 0), (118, 1, 8, 17, 0)])
def md_64 : mD := (yX8_read, cX8_read, 5, (some .int), RX8, 3, 72, 1, [(7, 2, 8, 0, 1), (13, 2, 8, 1, 2), (16, 2, 8, 2, 3), (74, 3, 50, 0, 0), (80, 4, 49, 8, 0), (121, 4, 62, 8, 0)])
def md_65 : mD := (yX8_seal, cX8_seal, 1, (some .int), RX8, 0, 0, 0, [(34, 2, 8, 12, 9), (93, 0, 8, 5, 0), (111, 0, 8, 10, 0), (124, 0, 8, 11, 0)])
def md_66 : mD := (yX8_layerBy, cX8_layerBy, 2, (some .int), RX8, 0, 0, 1, [(34, 2, 8, 12, 9), (124, 0, 8, 11, 0)])
def md_67 : mD := (yX8_layer, cX8_layer, 2, (some .int), RX8, 1, 25, 1, [(65, 3, 44, 0, 0), (127, 8, 0, 0, 39), (129, 4, 66, 8, 0)])
def md_68 : mD := (yX8_set, cX8_set, 5, (some .int), RX8, 2, 45, 2, [(56, 0, 8, 13, 0), (60, 0, 8, 14, 0), (65, 3, 44, 0, 0), (132, 0, 8, 15, 0), (135, 8, 0, 0, 10), (137, 8, 0, 0, 8), (139, 3, 46, 0, 0)])
def md_69 : mD := (yX8_generation, cX8_generation, 2, (some .int), RX8, 0, 0, 1, [(28, 2, 8, 8, 7), (111, 0, 8, 10, 0)])
def md_70 : mD := (yX8_children, cX8_children, 4, (some .int), RX8, 0, 0, 1, [(22, 2, 8, 6, 5), (25, 2, 8, 7, 6), (93, 0, 8, 5, 0)])
def md_71 : mD := (yX8_commitBy, cX8_commitBy, 3, (some .int), RX8, 1, 23, 2, [(22, 2, 8, 6, 5), (25, 2, 8, 7, 6), (28, 2, 8, 8, 7), (31, 2, 8, 9, 8), (142, 4, 69, 8, 0), (145, 4, 70, 8, 0)])
def md_72 : mD := (yX8_commit, cX8_commit, 3, (some .int), RX8, 2, 46, 2, [(65, 3, 44, 0, 0), (148, 4, 58, 8, 0), (151, 8, 0, 0, 5), (153, 4, 71, 8, 0)])
def md_73 : mD := (yX8_parent, cX8_parent, 3, (some .int), RX8, 0, 0, 2, [(22, 2, 8, 6, 5), (25, 2, 8, 7, 6)])
def md_74 : mD := (yX8_reachOf, cX8_reachOf, 7, (some .long), RX8, 1, 22, 1, [(96, 3, 59, 0, 0), (156, 4, 73, 8, 0)])
def md_75 : mD := (yX8_reach, cX8_reach, 2, (some .long), RX8, 2, 48, 1, [(148, 4, 58, 8, 0), (159, 4, 74, 8, 0), (163, 3, 45, 0, 0)])
def md_76 : mD := (yX8_next, cX8_next, 5, (some .int), RX8, 1, 22, 1, [(93, 0, 8, 5, 0), (96, 3, 59, 0, 0), (142, 4, 69, 8, 0)])
def md_77 : mD := (yX8_looks, cX8_looks, 14, (some .int), RX8, 2, 46, 3, [(37, 2, 8, 18, 10), (96, 3, 59, 0, 0), (100, 8, 0, 0, (-1)), (142, 4, 69, 8, 0), (156, 4, 73, 8, 0), (166, 4, 76, 8, 0)])
def md_78 : mD := (yX8_lookBy, cX8_lookBy, 4, (some .int), RX8, 3, 79, 3, [(96, 3, 59, 0, 0), (142, 4, 69, 8, 0), (159, 4, 74, 8, 0), (170, 4, 77, 8, 0)])
def md_79 : mD := (yX8_look, cX8_look, 4, (some .int), RX8, 4, 102, 3, [(65, 3, 44, 0, 0), (78, 8, 0, 0, 2), (148, 4, 58, 8, 0), (173, 4, 78, 8, 0)])
def md_80 : mD := (yX8_basesOf, cX8_basesOf, 24, (some .long), RX8, 2, 46, 2, [(100, 8, 0, 0, (-1)), (156, 4, 73, 8, 0), (166, 4, 76, 8, 0), (176, 0, 8, 19, 0)])
def md_81 : mD := (yX8_bases, cX8_bases, 3, (some .long), RX8, 3, 89, 2, [(148, 4, 58, 8, 0), (163, 3, 45, 0, 0), (179, 4, 80, 8, 0)])
def md_82 : mD := (yX8_paintsOf, cX8_paintsOf, 3, (some .int), RX8, 3, 89, 2, [(176, 0, 8, 19, 0), (179, 4, 80, 8, 0)])
def md_83 : mD := (yX8_paints, cX8_paints, 3, (some .int), RX8, 4, 111, 2, [(148, 4, 58, 8, 0), (183, 4, 82, 8, 0)])
def md_84 : mD := (yX8_goesDown, cX8_goesDown, 5, none, RX8, 1, 22, 1, [(40, 2, 8, 20, 11), (44, 2, 8, 21, 12), (93, 0, 8, 5, 0), (156, 4, 73, 8, 0), (186, 3, 47, 0, 0)])
def md_85 : mD := (yX8_waysOf, cX8_waysOf, 3, (some .long), RX8, 2, 46, 2, [(40, 2, 8, 20, 11), (189, 4, 84, 8, 0)])
def md_86 : mD := (yX8_ways, cX8_ways, 3, (some .long), RX8, 3, 68, 2, [(148, 4, 58, 8, 0), (163, 3, 45, 0, 0), (193, 4, 85, 8, 0)])
def md_87 : mD := (yX8_farOf, cX8_farOf, 3, (some .int), RX8, 2, 46, 2, [(44, 2, 8, 21, 12), (189, 4, 84, 8, 0)])
def md_88 : mD := (yX8_far, cX8_far, 3, (some .int), RX8, 3, 68, 2, [(148, 4, 58, 8, 0), (196, 4, 87, 8, 0)])
def md_89 : mD := (yX8_isKept, cX8_isKept, 2, (some .boolean), RX8, 0, 0, 1, [(56, 0, 8, 13, 0)])
def md_90 : mD := (yX8_rootOf, cX8_rootOf, 6, (some .int), RX8, 2, 48, 1, [(96, 3, 59, 0, 0), (159, 4, 74, 8, 0), (199, 4, 89, 8, 0)])
def md_91 : mD := (yX8_shareOf, cX8_shareOf, 3, (some .int), RX8, 3, 73, 1, [(100, 8, 0, 0, (-1)), (159, 4, 74, 8, 0), (202, 4, 90, 8, 0), (205, 3, 60, 0, 0)])
def md_92 : mD := (yX8_rootsOf, cX8_rootsOf, 4, (some .int), RX8, 3, 73, 1, [(202, 4, 90, 8, 0)])
def md_93 : mD := (yX8_keptBy, cX8_keptBy, 3, (some .int), RX8, 4, 96, 2, [(199, 4, 89, 8, 0), (202, 4, 90, 8, 0), (208, 4, 91, 8, 0), (211, 4, 92, 8, 0)])
def md_94 : mD := (yX8_kept, cX8_kept, 3, (some .int), RX8, 5, 118, 2, [(65, 3, 44, 0, 0), (78, 8, 0, 0, 2), (148, 4, 58, 8, 0), (214, 4, 93, 8, 0)])
def md_95 : mD := (yX8_walkBy, cX8_walkBy, 14, (some .int), RX8, 2, 48, 2, [(156, 4, 73, 8, 0), (159, 4, 74, 8, 0), (199, 4, 89, 8, 0), (205, 3, 60, 0, 0)])
def md_96 : mD := (yX8_walk, cX8_walk, 3, (some .int), RX8, 3, 81, 2, [(65, 3, 44, 0, 0), (78, 8, 0, 0, 2), (148, 4, 58, 8, 0), (217, 4, 95, 8, 0)])
def md_97 : mD := (yX8_has, cX8_has, 2, (some .int), RX8, 2, 48, 1, [(114, 1, 8, 16, 0), (148, 4, 58, 8, 0), (159, 4, 74, 8, 0), (205, 3, 60, 0, 0)])
def md_98 : mD := (yX8_want, cX8_want, 2, (some .int), RX8, 2, 46, 1, [(96, 3, 59, 0, 0), (118, 1, 8, 17, 0), (148, 4, 58, 8, 0), (205, 3, 60, 0, 0)])
def md_99 : mD := (yX8_clear, cX8_clear, 3, (some .int), RX8, 2, 45, 1, [(114, 1, 8, 16, 0), (118, 1, 8, 17, 0), (139, 3, 46, 0, 0), (205, 3, 60, 0, 0)])
def md_100 : mD := (yX8_reachAll, cX8_reachAll, 6, (some .long), RX8, 2, 48, 1, [(93, 0, 8, 5, 0), (96, 3, 59, 0, 0), (159, 4, 74, 8, 0)])
def md_101 : mD := (yX8_heads, cX8_heads, 4, (some .long), RX8, 2, 48, 0, [(93, 0, 8, 5, 0), (96, 3, 59, 0, 0), (100, 8, 0, 0, (-1)), (114, 1, 8, 16, 0), (159, 4, 74, 8, 0)])
def md_102 : mD := (yX8_nextTold, cX8_nextTold, 3, (some .int), RX8, 1, 22, 0, [(28, 2, 8, 8, 7), (93, 0, 8, 5, 0), (96, 3, 59, 0, 0), (100, 8, 0, 0, (-1)), (220, 1, 8, 29, 0)])
def md_103 : mD := (yX8_answers, cX8_answers, 6, none, RX8, 2, 48, 1, [(47, 2, 8, 24, 13), (50, 2, 8, 25, 14), (96, 3, 59, 0, 0), (156, 4, 73, 8, 0), (159, 4, 74, 8, 0), (220, 1, 8, 29, 0), (223, 1, 8, 28, 0), (226, 1, 8, 27, 0), (229, 1, 8, 30, 0)])
def md_104 : mD := (yX8_isEnough, cX8_isEnough, 3, (some .boolean), RX8, 2, 48, 0, [(93, 0, 8, 5, 0), (96, 3, 59, 0, 0), (118, 1, 8, 17, 0), (132, 0, 8, 15, 0), (159, 4, 74, 8, 0), (226, 1, 8, 27, 0)])
def md_105 : mD := (yX8_talks, cX8_talks, 5, none, RX8, 3, 73, 0, [(47, 2, 8, 24, 13), (53, 2, 8, 26, 15), (60, 0, 8, 14, 0), (96, 3, 59, 0, 0), (118, 1, 8, 17, 0), (220, 1, 8, 29, 0), (223, 1, 8, 28, 0), (226, 1, 8, 27, 0), (229, 1, 8, 30, 0), (232, 0, 8, 22, 0), (235, 0, 8, 23, 0), (238, 4, 100, 8, 0), (242, 4, 101, 8, 0), (246, 4, 102, 8, 0), (250, 4, 103, 8, 0), (253, 4, 104, 8, 0)])
def md_106 : mD := (yX8_setBy, cX8_setBy, 4, (some .long), RX8, 0, 0, 1, [(100, 8, 0, 0, (-1)), (114, 1, 8, 16, 0), (118, 1, 8, 17, 0), (223, 1, 8, 28, 0), (226, 1, 8, 27, 0)])
def md_107 : mD := (yX8_sets, cX8_sets, 2, (some .long), RX8, 4, 97, 1, [(65, 3, 44, 0, 0), (163, 3, 45, 0, 0), (257, 4, 105, 8, 0), (260, 8, 0, 0, 4), (262, 4, 106, 8, 0)])
def md_108 : mD := (yX8_rounds, cX8_rounds, 1, (some .int), RX8, 4, 97, 0, [(232, 0, 8, 22, 0), (257, 4, 105, 8, 0)])
def md_109 : mD := (yX8_toldBy, cX8_toldBy, 3, (some .int), RX8, 0, 0, 2, [(47, 2, 8, 24, 13), (50, 2, 8, 25, 14), (53, 2, 8, 26, 15), (235, 0, 8, 23, 0)])
def md_110 : mD := (yX8_told, cX8_told, 3, (some .int), RX8, 4, 97, 2, [(65, 3, 44, 0, 0), (78, 8, 0, 0, 2), (127, 8, 0, 0, 39), (257, 4, 105, 8, 0), (265, 4, 109, 8, 0)])
def md_111 : mD := (yX8_thingsNow, cX8_thingsNow, 6, (some .int), RX8, 1, 23, 0, [(31, 2, 8, 9, 8), (93, 0, 8, 5, 0), (96, 3, 59, 0, 0), (226, 1, 8, 27, 0), (262, 4, 106, 8, 0)])
def md_112 : mD := (yX8_things, cX8_things, 1, (some .int), RX8, 4, 97, 0, [(257, 4, 105, 8, 0), (268, 4, 111, 8, 0)])
def md_113 : mD := (yX8_write, cX8_write, 6, (some .int), RX8, 3, 79, 3, [(7, 2, 8, 0, 1), (13, 2, 8, 1, 2), (16, 2, 8, 2, 3), (37, 2, 8, 18, 10), (74, 3, 50, 0, 0), (80, 4, 49, 8, 0), (88, 3, 54, 0, 0), (142, 4, 69, 8, 0), (148, 4, 58, 8, 0), (170, 4, 77, 8, 0), (186, 3, 47, 0, 0)])
def md_114 : mD := (yX8_count, cX8_count, 2, (some .int), RX8, 4, 97, 1, [(69, 0, 8, 4, 0), (93, 0, 8, 5, 0), (111, 0, 8, 10, 0), (114, 1, 8, 16, 0), (118, 1, 8, 17, 0), (124, 0, 8, 11, 0), (205, 3, 60, 0, 0), (232, 0, 8, 22, 0), (235, 0, 8, 23, 0), (257, 4, 105, 8, 0), (262, 4, 106, 8, 0)])
def md_115 : mD := (yX8_tellsCommit, cX8_tellsCommit, 8, (some .long), RX8, 5, 118, 3, [(153, 4, 71, 8, 0), (159, 4, 74, 8, 0), (173, 4, 78, 8, 0), (179, 4, 80, 8, 0), (183, 4, 82, 8, 0), (193, 4, 85, 8, 0), (196, 4, 87, 8, 0), (214, 4, 93, 8, 0), (217, 4, 95, 8, 0), (271, 8, 0, 0, 31)])
def md_116 : mD := (yX8_digest, cX8_digest, 5, (some .long), RX8, 6, 145, 0, [(93, 0, 8, 5, 0), (129, 4, 66, 8, 0), (262, 4, 106, 8, 0), (265, 4, 109, 8, 0), (268, 4, 111, 8, 0), (271, 8, 0, 0, 31), (273, 8, 0, 0, 17), (275, 4, 114, 8, 0), (278, 4, 115, 8, 0)])
def md_117 : mD := (yX0_forget, cX0_forget, 2, none, RX0, 1, 20, 1, [(22, 1, 0, 0, 0), (26, 5, 41, 0, 0), (30, 8, 0, 0, (-1)), (32, 1, 0, 1, 0)])
def md_118 : mD := (yX0_talk, cX0_talk, 4, none, RX0, 4, 90, 1, [(22, 1, 0, 0, 0), (32, 1, 0, 1, 0), (35, 4, 140, 1, 0), (41, 1, 0, 11, 0), (44, 4, 141, 1, 0), (47, 1, 0, 8, 0), (50, 1, 0, 9, 0), (53, 1, 0, 10, 0), (56, 0, 0, 6, 0), (59, 0, 0, 7, 0), (62, 4, 119, 0, 0), (66, 4, 120, 0, 0), (70, 0, 0, 3, 0), (73, 4, 121, 0, 0)])
def md_119 : mD := (yX0_tell, cX0_tell, 5, none, RX0, 3, 66, 1, [(9, 0, 0, 2, 0), (15, 2, 0, 4, 1), (19, 2, 0, 5, 2), (26, 5, 41, 0, 0), (30, 8, 0, 0, (-1)), (47, 1, 0, 8, 0), (53, 1, 0, 10, 0), (56, 0, 0, 6, 0), (59, 0, 0, 7, 0), (77, 4, 145, 1, 0), (81, 5, 42, 0, 0)])
def md_120 : mD := (yX0_answer, cX0_answer, 7, none, RX0, 3, 63, 2, [(15, 2, 0, 4, 1), (30, 8, 0, 0, (-1)), (41, 1, 0, 11, 0), (47, 1, 0, 8, 0), (50, 1, 0, 9, 0), (53, 1, 0, 10, 0), (56, 0, 0, 6, 0), (81, 5, 42, 0, 0), (85, 4, 139, 1, 0), (88, 4, 135, 1, 0)])
def md_121 : mD := (yX0_isServed, cX0_isServed, 3, (some .boolean), RX0, 2, 42, 1, [(32, 1, 0, 1, 0), (53, 1, 0, 10, 0), (81, 5, 42, 0, 0), (85, 4, 139, 1, 0), (91, 0, 1, 6, 0)])
def md_122 : mD := (yX0_setOf, cX0_setOf, 2, (some .long), RX0, 0, 0, 1, [(22, 1, 0, 0, 0), (30, 8, 0, 0, (-1)), (32, 1, 0, 1, 0), (41, 1, 0, 11, 0), (53, 1, 0, 10, 0)])
def md_123 : mD := (yX0_tellingPart, cX0_tellingPart, 3, (some .int), RX0, 2, 42, 2, [(15, 2, 0, 4, 1), (19, 2, 0, 5, 2), (41, 1, 0, 11, 0), (56, 0, 0, 6, 0), (81, 5, 42, 0, 0)])
def md_124 : mD := (yX0_thingsSent, cX0_thingsSent, 2, (some .int), RX0, 3, 66, 1, [(30, 8, 0, 0, (-1)), (41, 1, 0, 11, 0), (53, 1, 0, 10, 0), (94, 4, 142, 1, 0)])
def md_125 : mD := (yX1_holds, cX1_holds, 2, (some .boolean), RX1, 0, 0, 1, [(31, 0, 1, 6, 0)])
def md_126 : mD := (yX1_isFull, cX1_isFull, 1, (some .boolean), RX1, 0, 0, 0, [(31, 0, 1, 6, 0)])
def md_127 : mD := (yX1_admits, cX1_admits, 4, (some .boolean), RX1, 1, 21, 3, [(35, 7, 0, 0, 1048575), (36, 4, 125, 1, 0)])
def md_128 : mD := (yX1_append, cX1_append, 5, none, RX1, 2, 42, 3, [(9, 2, 1, 0, 1), (15, 2, 1, 1, 2), (18, 2, 1, 2, 3), (21, 2, 1, 3, 4), (24, 2, 1, 4, 5), (31, 0, 1, 6, 0), (40, 4, 126, 1, 0), (44, 4, 137, 1, 0), (48, 9, 0, 0, 0), (54, 5, 41, 0, 0), (58, 4, 139, 1, 0)])
def md_129 : mD := (yX1_dropLast, cX1_dropLast, 1, none, RX1, 0, 0, 0, [(31, 0, 1, 6, 0), (61, 0, 1, 7, 0)])
def md_130 : mD := (yX1_sealRest, cX1_sealRest, 1, none, RX1, 1, 23, 0, [(28, 2, 1, 5, 6), (31, 0, 1, 6, 0), (61, 0, 1, 7, 0), (64, 0, 1, 8, 0), (67, 4, 131, 1, 0)])
def md_131 : mD := (yX1_joinLayers, cX1_joinLayers, 4, none, RX1, 0, 0, 0, [(28, 2, 1, 5, 6), (64, 0, 1, 8, 0)])
def md_132 : mD := (yX1_layerSize, cX1_layerSize, 2, (some .int), RX1, 0, 0, 1, [(28, 2, 1, 5, 6), (64, 0, 1, 8, 0)])
def md_133 : mD := (yX1_firstParent, cX1_firstParent, 2, (some .int), RX1, 1, 21, 1, [(9, 2, 1, 0, 1), (36, 4, 125, 1, 0)])
def md_134 : mD := (yX1_secondParent, cX1_secondParent, 2, (some .int), RX1, 1, 21, 1, [(15, 2, 1, 1, 2), (36, 4, 125, 1, 0)])
def md_135 : mD := (yX1_parentsOf, cX1_parentsOf, 2, (some .long), RX1, 2, 42, 1, [(54, 5, 41, 0, 0), (70, 4, 133, 1, 0), (73, 4, 134, 1, 0)])
def md_136 : mD := (yX1_childrenOf, cX1_childrenOf, 4, (some .int), RX1, 3, 63, 1, [(31, 0, 1, 6, 0), (76, 4, 135, 1, 0), (79, 5, 42, 0, 0)])
def md_137 : mD := (yX1_rankOf, cX1_rankOf, 2, (some .int), RX1, 1, 21, 1, [(21, 2, 1, 3, 4), (36, 4, 125, 1, 0)])
def md_138 : mD := (yX1_generationOf, cX1_generationOf, 2, (some .int), RX1, 2, 42, 1, [(44, 4, 137, 1, 0), (61, 0, 1, 7, 0)])
def md_139 : mD := (yX1_reachOf, cX1_reachOf, 2, (some .long), RX1, 1, 21, 1, [(24, 2, 1, 4, 5), (36, 4, 125, 1, 0)])
def md_140 : mD := (yX1_reachOfAll, cX1_reachOfAll, 6, (some .long), RX1, 2, 42, 1, [(24, 2, 1, 4, 5), (31, 0, 1, 6, 0), (79, 5, 42, 0, 0)])
def md_141 : mD := (yX1_tipsOf, cX1_tipsOf, 6, (some .long), RX1, 2, 42, 1, [(24, 2, 1, 4, 5), (31, 0, 1, 6, 0), (54, 5, 41, 0, 0), (79, 5, 42, 0, 0), (83, 8, 0, 0, (-1))])
def md_142 : mD := (yX1_thingsOf, cX1_thingsOf, 5, (some .int), RX1, 2, 42, 1, [(18, 2, 1, 2, 3), (31, 0, 1, 6, 0), (79, 5, 42, 0, 0)])
def md_143 : mD := (yX1_fromGeneration, cX1_fromGeneration, 5, (some .long), RX1, 3, 63, 1, [(31, 0, 1, 6, 0), (54, 5, 41, 0, 0), (85, 4, 138, 1, 0)])
def md_144 : mD := (yX1_topByGeneration, cX1_topByGeneration, 5, (some .int), RX1, 3, 63, 1, [(31, 0, 1, 6, 0), (79, 5, 42, 0, 0), (85, 4, 138, 1, 0)])
def md_145 : mD := (yX1_topByRank, cX1_topByRank, 5, (some .int), RX1, 2, 42, 1, [(31, 0, 1, 6, 0), (44, 4, 137, 1, 0), (79, 5, 42, 0, 0)])
def md_146 : mD := (yX2_isKept, cX2_isKept, 2, (some .boolean), RX2, 0, 0, 1, [(9, 0, 2, 0, 0)])
def md_147 : mD := (yX2_rootOf, cX2_rootOf, 4, (some .int), RX2, 2, 42, 2, [(15, 4, 146, 2, 0), (19, 4, 139, 1, 0), (25, 5, 42, 0, 0)])
def md_148 : mD := (yX2_shareSize, cX2_shareSize, 5, (some .int), RX2, 3, 65, 2, [(19, 4, 139, 1, 0), (29, 4, 147, 2, 0), (33, 8, 0, 0, (-1)), (35, 3, 167, 0, 0)])
def md_149 : mD := (yX2_rootsBehind, cX2_rootsBehind, 6, (some .int), RX2, 3, 65, 2, [(29, 4, 147, 2, 0)])
def md_150 : mD := (yX2_descend, cX2_descend, 7, none, RX2, 3, 64, 2, [(15, 4, 146, 2, 0), (19, 4, 139, 1, 0), (25, 5, 42, 0, 0), (33, 8, 0, 0, (-1)), (41, 0, 2, 1, 0), (44, 0, 2, 2, 0), (47, 1, 2, 3, 0), (51, 5, 41, 0, 0), (54, 5, 43, 0, 0), (57, 4, 135, 1, 0)])
def md_151 : mD := (yX3_search, cX3_search, 15, none, RX3, 4, 87, 4, [(9, 2, 3, 0, 1), (15, 0, 3, 1, 0), (19, 12, 3, 2, 0), (23, 8, 0, 0, (-1)), (25, 4, 138, 1, 0), (31, 4, 143, 1, 0), (35, 5, 41, 0, 0), (38, 4, 144, 1, 0), (42, 4, 135, 1, 0)])
def md_152 : mD := (yX3_lookedAt, cX3_lookedAt, 2, (some .int), RX3, 0, 0, 1, [(9, 2, 3, 0, 1), (15, 0, 3, 1, 0)])
def md_153 : mD := (yX4_paint, cX4_paint, 6, none, RX4, 4, 87, 3, [(9, 5, 41, 0, 0), (13, 1, 4, 0, 0), (19, 1, 4, 1, 0), (22, 1, 4, 2, 0), (25, 1, 4, 3, 0), (28, 1, 4, 4, 0), (31, 1, 4, 5, 0), (34, 0, 4, 6, 0), (38, 8, 0, 0, (-1)), (40, 4, 144, 1, 0), (46, 4, 135, 1, 0), (49, 4, 154, 4, 0)])
def md_154 : mD := (yX4_passOn, cX4_passOn, 4, none, RX4, 2, 42, 2, [(13, 1, 4, 0, 0), (19, 1, 4, 1, 0), (22, 1, 4, 2, 0), (25, 1, 4, 3, 0), (28, 1, 4, 4, 0), (38, 8, 0, 0, (-1)), (53, 5, 42, 0, 0)])
def md_155 : mD := (yX5_trace, cX5_trace, 4, none, RX5, 2, 42, 2, [(9, 2, 5, 0, 1), (15, 2, 5, 1, 2), (19, 0, 1, 6, 0), (25, 4, 133, 1, 0), (29, 4, 156, 5, 0), (33, 4, 134, 1, 0)])
def md_156 : mD := (yX5_passOn, cX5_passOn, 3, none, RX5, 0, 0, 2, [(9, 2, 5, 0, 1), (15, 2, 5, 1, 2)])
def md_157 : mD := (yX5_waysTo, cX5_waysTo, 2, (some .long), RX5, 0, 0, 1, [(9, 2, 5, 0, 1)])
def md_158 : mD := (yX5_stepsTo, cX5_stepsTo, 2, (some .int), RX5, 0, 0, 1, [(15, 2, 5, 1, 2)])
def md_159 : mD := (yX6_isLost, cX6_isLost, 1, (some .boolean), RX6, 0, 0, 0, [(15, 0, 6, 2, 0)])
def md_160 : mD := (yX6_renew, cX6_renew, 4, none, RX6, 1, 21, 2, [(9, 2, 6, 0, 4), (15, 0, 6, 2, 0), (19, 0, 6, 1, 0), (22, 10, 0, 0, 0), (28, 9, 0, 0, 0)])
def md_161 : mD := (yX6_faultAt, cX6_faultAt, 3, (some .int), RX6, 1, 21, 2, [(19, 0, 6, 1, 0), (31, 4, 159, 6, 0), (35, 4, 162, 6, 0)])
def md_162 : mD := (yX6_hasItem, cX6_hasItem, 2, (some .boolean), RX6, 0, 0, 1, [(15, 0, 6, 2, 0)])
def md_163 : mD := (yX6_hasRun, cX6_hasRun, 3, (some .boolean), RX6, 0, 0, 2, [(15, 0, 6, 2, 0)])
def md_164 : mD := (yX6_itemAt, cX6_itemAt, 2, (some .int), RX6, 1, 21, 1, [(9, 2, 6, 0, 4), (35, 4, 162, 6, 0)])
def md_165 : mD := (yX6_store, cX6_store, 3, none, RX6, 1, 21, 2, [(9, 2, 6, 0, 4), (35, 4, 162, 6, 0), (39, 4, 166, 6, 0)])
def md_166 : mD := (yX6_narrowed, cX6_narrowed, 2, (some .int), RX6, 0, 0, 1, [(19, 0, 6, 1, 0)])
def md_167 : mD := (yJ13_bitCount_95d88, cJ13_bitCount_95d88, 2, (some .int), RJ13, 0, 0, 1, [(314, 8, 0, 0, 6148914691236517205), (316, 8, 0, 0, 3689348814741910323), (318, 8, 0, 0, 1085102592571150095)])
def mtab : List mD := [md_0, md_1, md_2, md_3, md_4, md_5, md_6, md_7, md_8, md_9, md_10, md_11, md_12, md_13, md_14, md_15, md_16, md_17, md_18, md_19, md_20, md_21, md_22, md_23, md_24, md_25, md_26, md_27, md_28, md_29, md_30, md_31, md_32, md_33, md_34, md_35, md_36, md_37, md_38, md_39, md_40, md_41, md_42, md_43, md_44, md_45, md_46, md_47, md_48, md_49, md_50, md_51, md_52, md_53, md_54, md_55, md_56, md_57, md_58, md_59, md_60, md_61, md_62, md_63, md_64, md_65, md_66, md_67, md_68, md_69, md_70, md_71, md_72, md_73, md_74, md_75, md_76, md_77, md_78, md_79, md_80, md_81, md_82, md_83, md_84, md_85, md_86, md_87, md_88, md_89, md_90, md_91, md_92, md_93, md_94, md_95, md_96, md_97, md_98, md_99, md_100, md_101, md_102, md_103, md_104, md_105, md_106, md_107, md_108, md_109, md_110, md_111, md_112, md_113, md_114, md_115, md_116, md_117, md_118, md_119, md_120, md_121, md_122, md_123, md_124, md_125, md_126, md_127, md_128, md_129, md_130, md_131, md_132, md_133, md_134, md_135, md_136, md_137, md_138, md_139, md_140, md_141, md_142, md_143, md_144, md_145, md_146, md_147, md_148, md_149, md_150, md_151, md_152, md_153, md_154, md_155, md_156, md_157, md_158, md_159, md_160, md_161, md_162, md_163, md_164, md_165, md_166, md_167]
def md (y : Nat) : mD := mtab.getD y md_0
def lkF : List (Nat × Nat × Nat × Nat × Int64) → Nat → Nat × Nat × Nat × Int64
  | [], _ => (99, 0, 0, 0)
  | q :: qs, i => match Nat.beq q.1 i with
    | true => q.2
    | false => lkF qs i
def lk (y i : Nat) : Nat × Nat × Nat × Int64 := lkF (md y).2.2.2.2.2.2.2.2 i
/-- one step: goes on, calls, or ends -/
abbrev mR : Type := Option ((Nat × mL × List Value × mH) ⊕ (Nat × List Value × Nat × mL × List Value) ⊕ Option Value)
def nx (pc : Nat) (loc : mL) (stk : List Value) (h : mH) : mR := some (.inl (pc, loc, stk, h))
def nxs (pc : Nat) (loc : mL) (h : mH) : Option (List Value) → mR
  | none => none
  | some stk => nx pc loc stk h
def inB (i : Int32) (n : Nat) : Prop := 0 ≤ i ∧ i.toNatClampNeg < n
def kil : Option Value → Option Value
  | some (.long _) => none
  | some (.double _) => none
  | o => o
def st1 : mL → Nat → Value → mL
  | [], _, _ => []
  | _ :: os, 0, v => some v :: os
  | o :: os, i + 1, v => (match i with | 0 => kil o | _ + 1 => o) :: st1 os i v
def st2 : mL → Nat → Value → mL
  | [], _, _ => []
  | _ :: os, 0, v => some v :: (match os with | [] => [] | _ :: os => none :: os)
  | o :: os, i + 1, v => (match i with | 0 => kil o | _ + 1 => o) :: st2 os i v
def lget : mL → Nat → Option Value
  | [], _ => none
  | o :: _, 0 => o
  | _ :: os, i + 1 => lget os i
def ldI (pc : Nat) (loc : mL) (stk : List Value) (h : mH) : Option Value → mR
  | some (.int x) => nx pc loc (.int x :: stk) h
  | _ => none
def ldL (pc : Nat) (loc : mL) (stk : List Value) (h : mH) : Option Value → mR
  | some (.long x) => nx pc loc (.long x :: stk) h
  | _ => none
def ldA (pc : Nat) (loc : mL) (stk : List Value) (h : mH) : Option Value → mR
  | some (.ref x) => nx pc loc (.ref x :: stk) h
  | some .null => nx pc loc (.null :: stk) h
  | _ => none
def stoI (pc i : Nat) (loc : mL) (h : mH) : List Value → mR
  | .int x :: r => match Nat.blt i loc.length with
    | true => nx pc (st1 loc i (.int x)) r h
    | false => none
  | _ => none
def stoL (pc i : Nat) (loc : mL) (h : mH) : List Value → mR
  | .long x :: r => match Nat.blt (i + 1) loc.length with
    | true => nx pc (st2 loc i (.long x)) r h
    | false => none
  | _ => none
def stoA (pc i : Nat) (loc : mL) (h : mH) : List Value → mR
  | .ref x :: r => match Nat.blt i loc.length with
    | true => nx pc (st1 loc i (.ref x)) r h
    | false => none
  | .null :: r => match Nat.blt i loc.length with
    | true => nx pc (st1 loc i .null) r h
    | false => none
  | _ => none
def op2 (f : Int32 → Int32 → Int32) : List Value → Option (List Value)
  | .int y :: .int x :: r => some (.int (f x y) :: r)
  | _ => none
def op2L (f : Int64 → Int64 → Int64) : List Value → Option (List Value)
  | .long y :: .long x :: r => some (.long (f x y) :: r)
  | _ => none
def opSh (f : Int64 → Int32 → Int64) : List Value → Option (List Value)
  | .int y :: .long x :: r => some (.long (f x y) :: r)
  | _ => none
def opCmp : List Value → Option (List Value)
  | .long y :: .long x :: r => some (.int (lg_cmp x y) :: r)
  | _ => none
def opI (f : Int32 → Int32) : List Value → Option (List Value)
  | .int x :: r => some (.int (f x) :: r)
  | _ => none
def opIL (f : Int32 → Int64) : List Value → Option (List Value)
  | .int x :: r => some (.long (f x) :: r)
  | _ => none
def opLI (f : Int64 → Int32) : List Value → Option (List Value)
  | .long x :: r => some (.int (f x) :: r)
  | _ => none
def opDup : List Value → Option (List Value)
  | .int x :: r => some (.int x :: .int x :: r)
  | .ref x :: r => some (.ref x :: .ref x :: r)
  | _ => none
def opDup2 : List Value → Option (List Value)
  | .long x :: r => some (.long x :: .long x :: r)
  | .int x :: .ref y :: r => some (.int x :: .ref y :: .int x :: .ref y :: r)
  | .int x :: .int y :: r => some (.int x :: .int y :: .int x :: .int y :: r)
  | _ => none
/-- a jump: where to -/
def jmp (pc : Nat) (off : Int) : Nat := ((pc : Int) + off).toNat
def jok (pc : Nat) (off : Int) : Bool := decide (0 ≤ (pc : Int) + off)
def cnd : ClassFile.Cond → Int32 → Int32 → Prop
  | .eq, x, y => x = y
  | .ne, x, y => ¬ x = y
  | .lt, x, y => x < y
  | .ge, x, y => y ≤ x
  | .gt, x, y => y < x
  | .le, x, y => x ≤ y
def cndD : (c : ClassFile.Cond) → (x y : Int32) → Decidable (cnd c x y)
  | .eq, x, y => inferInstanceAs (Decidable (x = y))
  | .ne, x, y => inferInstanceAs (Decidable (¬ x = y))
  | .lt, x, y => inferInstanceAs (Decidable (x < y))
  | .ge, x, y => inferInstanceAs (Decidable (y ≤ x))
  | .gt, x, y => inferInstanceAs (Decidable (y < x))
  | .le, x, y => inferInstanceAs (Decidable (x ≤ y))
def brn (c : ClassFile.Cond) (x y : Int32) (a b : mR) : mR := @ite _ (cnd c x y) (cndD c x y) a b
def stIf (pc : Nat) (loc : mL) (h : mH) (c : ClassFile.Cond) (off : Int) : List Value → mR
  | .int x :: r => match jok pc off with
    | true => brn c x 0 (nx (jmp pc off) loc r h) (nx (pc + 3) loc r h)
    | false => none
  | _ => none
def stCmp (pc : Nat) (loc : mL) (h : mH) (c : ClassFile.Cond) (off : Int) : List Value → mR
  | .int y :: .int x :: r => match jok pc off with
    | true => brn c x y (nx (jmp pc off) loc r h) (nx (pc + 3) loc r h)
    | false => none
  | _ => none
def stNull (pc : Nat) (loc : mL) (h : mH) (off : Int) : List Value → mR
  | .null :: r => match jok pc off with
    | true => nx (jmp pc off) loc r h
    | false => none
  | .ref _ :: r => nx (pc + 3) loc r h
  | _ => none
def stNon (pc : Nat) (loc : mL) (h : mH) (off : Int) : List Value → mR
  | .ref _ :: r => match jok pc off with
    | true => nx (jmp pc off) loc r h
    | false => none
  | .null :: r => nx (pc + 3) loc r h
  | _ => none
/-- a switch: its cases one by one -/
def swi (pc : Nat) (loc : mL) (r : List Value) (h : mH) (x : Int32) (dflt : Int) : List (Int × Int) → mR
  | [] => match jok pc dflt with
    | true => nx (jmp pc dflt) loc r h
    | false => none
  | q :: qs => if x = Int32.ofInt q.1 then (match jok pc q.2 with
    | true => nx (jmp pc q.2) loc r h
    | false => none) else swi pc loc r h x dflt qs
def tbl (lo : Int) : List Int → List (Int × Int)
  | [] => []
  | o :: os => (lo, o) :: tbl (lo + 1) os
/-- a row of cases, in order, between bounds that an int has -/
def swok (qs : List (Int × Int)) : Bool := (qs.zip (qs.drop 1)).all (fun (a, next) => a.1 < next.1) && qs.all (fun q => decide (-1000 < q.1) && decide (q.1 < 1000))
def tok (lo hi : Int) (offs : List Int) : Bool := decide (-1000 < lo) && decide (hi < 1000) && decide ((offs.length : Int) = hi - lo + 1)
def stSw (pc : Nat) (loc : mL) (h : mH) (dflt : Int) (ok : Bool) (qs : List (Int × Int)) : List Value → mR
  | .int x :: r => match ok with
    | true => swi pc loc r h x dflt qs
    | false => none
  | _ => none
def gfl (pc : Nat) (loc : mL) (h : mH) (q : Nat × Nat × Nat × Int64) : List Value → mR
  | .ref k :: r => if shp k = (0, q.2.1) then (match q.1 with
    | 0 => nx (pc + 3) loc (.int (gI h k q.2.2.1) :: r) h
    | 12 => nx (pc + 3) loc (.int (gI h k q.2.2.1) :: r) h
    | 1 => nx (pc + 3) loc (.long (gJ h k q.2.2.1) :: r) h
    | 2 => nx (pc + 3) loc (.ref (k + q.2.2.2.toNatClampNeg) :: r) h
    | _ => none) else none
  | _ => none
def pfl (pc : Nat) (loc : mL) (h : mH) (q : Nat × Nat × Nat × Int64) : List Value → mR
  | .int x :: .ref k :: r => if shp k = (0, q.2.1) then (match q.1 with
    | 0 => nx (pc + 3) loc r (sI h k q.2.2.1 x)
    | 12 => if x = 0 ∨ x = 1 then nx (pc + 3) loc r (sI h k q.2.2.1 x) else none
    | _ => none) else none
  | .long x :: .ref k :: r => if shp k = (0, q.2.1) then (match q.1 with
    | 1 => nx (pc + 3) loc r (sJ h k q.2.2.1 x)
    | _ => none) else none
  | _ => none
def arI (pc : Nat) (loc : mL) (h : mH) : List Value → mR
  | .int i :: .ref k :: r => match (shp k).1 with
    | 1 => @ite _ (inB i (shp k).2) (inferInstanceAs (Decidable (0 ≤ i ∧ i.toNatClampNeg < (shp k).2))) (nx (pc + 1) loc (.int (gI h k i.toNatClampNeg) :: r) h) none
    | _ => none
  | _ => none
def arL (pc : Nat) (loc : mL) (h : mH) : List Value → mR
  | .int i :: .ref k :: r => match (shp k).1 with
    | 2 => @ite _ (inB i (shp k).2) (inferInstanceAs (Decidable (0 ≤ i ∧ i.toNatClampNeg < (shp k).2))) (nx (pc + 1) loc (.long (gJ h k i.toNatClampNeg) :: r) h) none
    | _ => none
  | _ => none
def arA (pc : Nat) (loc : mL) (h : mH) : List Value → mR
  | .int i :: .ref k :: r => match (shp k).1 with
    | 3 => @ite _ (inB i (shp k).2) (inferInstanceAs (Decidable (0 ≤ i ∧ i.toNatClampNeg < (shp k).2))) (nx (pc + 1) loc (.ref (k + 1 + i.toNatClampNeg) :: r) h) none
    | _ => none
  | _ => none
def asI (pc : Nat) (loc : mL) (h : mH) : List Value → mR
  | .int x :: .int i :: .ref k :: r => match (shp k).1 with
    | 1 => @ite _ (inB i (shp k).2) (inferInstanceAs (Decidable (0 ≤ i ∧ i.toNatClampNeg < (shp k).2))) (nx (pc + 1) loc r (sI h k i.toNatClampNeg x)) none
    | _ => none
  | _ => none
def asL (pc : Nat) (loc : mL) (h : mH) : List Value → mR
  | .long x :: .int i :: .ref k :: r => match (shp k).1 with
    | 2 => @ite _ (inB i (shp k).2) (inferInstanceAs (Decidable (0 ≤ i ∧ i.toNatClampNeg < (shp k).2))) (nx (pc + 1) loc r (sJ h k i.toNatClampNeg x)) none
    | _ => none
  | _ => none
def cats (r : List Value) : Nat := (r.map fun v => v.category).sum
def wds : List Value → Nat
  | [] => 0
  | .long _ :: r => wds r + 2
  | .double _ :: r => wds r + 2
  | _ :: r => wds r + 1
def cal (y y' : Nat) (pc : Nat) (loc : mL) (as : List Value) (r : List Value) : mR :=
  match Nat.ble ((md y').2.2.2.2.2.1 + 1) (md y).2.2.2.2.2.1 && Nat.ble (8 + ((md y').2.2.1 + 11) + (md y').2.2.2.2.2.2.1) (md y).2.2.2.2.2.2.1 && Nat.ble (cats r) 8 && Nat.ble (wds as) (md y').2.2.1 && Nat.blt y' mtab.length with
  | true => some (.inr (.inl (y', as, pc + 3, loc, r)))
  | false => none
def ivS (y : Nat) (pc : Nat) (loc : mL) (h : mH) (q : Nat × Nat × Nat × Int64) (stk : List Value) : mR := match q.1 with
  | 3 => match Nat.ble (md q.2.1).2.2.2.2.2.2.2.1 stk.length with
    | true => cal y q.2.1 pc loc (stk.take (md q.2.1).2.2.2.2.2.2.2.1).reverse (stk.drop (md q.2.1).2.2.2.2.2.2.2.1)
    | false => none
  | 5 => match Nat.ble (md q.2.1).2.2.2.2.2.2.2.1 stk.length with
    | true => cal y q.2.1 pc loc (stk.take (md q.2.1).2.2.2.2.2.2.2.1).reverse (stk.drop (md q.2.1).2.2.2.2.2.2.2.1)
    | false => none
  | 9 => match stk with
    | .int b :: .int a :: r => match Nat.ble (cats r) 8 with
      | true => nx (pc + 3) loc (.int (if a < b then b else a) :: r) h
      | false => none
    | _ => none
  | 10 => match stk with
    | .int b :: .int a :: r => match Nat.ble (cats r) 8 with
      | true => nx (pc + 3) loc (.int (if b < a then b else a) :: r) h
      | false => none
    | _ => none
  | 11 => match stk with
    | .int n :: .int dp :: .ref b :: .int sp :: .ref a :: r => match Nat.ble (cats r) 8 with
      | true => if ((shp a).1 = 1 ∧ (shp b).1 = 1) ∧ (0 ≤ sp ∧ 0 ≤ dp ∧ 0 ≤ n) ∧ sp.toNatClampNeg + n.toNatClampNeg ≤ (shp a).2 ∧ dp.toNatClampNeg + n.toNatClampNeg ≤ (shp b).2 then nx (pc + 3) loc r (cpI h a sp.toNatClampNeg b dp.toNatClampNeg n.toNatClampNeg) else none
      | false => none
    | _ => none
  | _ => none
def ivV (y : Nat) (pc : Nat) (loc : mL) (q : Nat × Nat × Nat × Int64) (stk : List Value) : mR := match q.1 with
  | 4 => match Nat.ble ((md q.2.1).2.2.2.2.2.2.2.1 + 1) stk.length with
    | true => match stk.drop (md q.2.1).2.2.2.2.2.2.2.1 with
      | .ref k :: r => if shp k = (0, q.2.2.1) then cal y q.2.1 pc loc (.ref k :: (stk.take (md q.2.1).2.2.2.2.2.2.2.1).reverse) r else none
      | _ => none
    | false => none
  | _ => none
def rtI : Option FieldType → List Value → mR
  | some .int, [.int x] => some (.inr (.inr (some (.int x))))
  | some .boolean, [.int x] => if x = 0 ∨ x = 1 then some (.inr (.inr (some (.int x)))) else none
  | _, _ => none
def rtL : Option FieldType → List Value → mR
  | some .long, [.long x] => some (.inr (.inr (some (.long x))))
  | _, _ => none
def rtA : Option FieldType → List Value → mR
  | some (.object _), [.ref x] => some (.inr (.inr (some (.ref x))))
  | some (.object _), [.null] => some (.inr (.inr (some .null)))
  | _, _ => none
def rtV : Option FieldType → List Value → mR
  | none, [] => some (.inr (.inr none))
  | _, _ => none
def stI (y pc : Nat) (loc : mL) (stk : List Value) (h : mH) : Instr → mR
  | .iconst n => nx (pc + 1) loc (.int (Int32.ofInt n) :: stk) h
  | .bipush n => nx (pc + 2) loc (.int (Int8.ofInt n).toInt32 :: stk) h
  | .sipush n => nx (pc + 3) loc (.int (Int16.ofInt n).toInt32 :: stk) h
  | .lconst n => nx (pc + 1) loc (.long (Int64.ofNat (n : Nat)) :: stk) h
  | .aconst_null => nx (pc + 1) loc (.null :: stk) h
  | .ldc i => match (lk y i).1 with
    | 7 => nx (pc + 2) loc (.int (lk y i).2.2.2.toInt32 :: stk) h
    | _ => none
  | .ldc2_w i => match (lk y i).1 with
    | 8 => nx (pc + 3) loc (.long (lk y i).2.2.2 :: stk) h
    | _ => none
  | .iload_n k => ldI (pc + 1) loc stk h (lget loc k)
  | .iload i => ldI (pc + 2) loc stk h (lget loc i)
  | .lload_n k => ldL (pc + 1) loc stk h (lget loc k)
  | .lload i => ldL (pc + 2) loc stk h (lget loc i)
  | .aload_n k => ldA (pc + 1) loc stk h (lget loc k)
  | .aload i => ldA (pc + 2) loc stk h (lget loc i)
  | .istore_n k => stoI (pc + 1) k loc h stk
  | .istore i => stoI (pc + 2) i loc h stk
  | .lstore_n k => stoL (pc + 1) k loc h stk
  | .lstore i => stoL (pc + 2) i loc h stk
  | .astore_n k => stoA (pc + 1) k loc h stk
  | .astore i => stoA (pc + 2) i loc h stk
  | .iinc i n => match lget loc i with
    | some (.int x) => nx (pc + 3) (st1 loc i (.int (x + Int32.ofInt n))) stk h
    | _ => none
  | .iadd => nxs (pc + 1) loc h (op2 (fun x y => x + y) stk)
  | .isub => nxs (pc + 1) loc h (op2 (fun x y => x - y) stk)
  | .imul => nxs (pc + 1) loc h (op2 (fun x y => x * y) stk)
  | .iand => nxs (pc + 1) loc h (op2 (fun x y => x &&& y) stk)
  | .ior => nxs (pc + 1) loc h (op2 (fun x y => x ||| y) stk)
  | .ixor => nxs (pc + 1) loc h (op2 (fun x y => x ^^^ y) stk)
  | .irem => match stk with
    | .int y :: .int x :: r => if y = 0 then none else nx (pc + 1) loc (.int (x - x / y * y) :: r) h
    | _ => none
  | .ladd => nxs (pc + 1) loc h (op2L (fun x y => x + y) stk)
  | .lsub => nxs (pc + 1) loc h (op2L (fun x y => x - y) stk)
  | .lmul => nxs (pc + 1) loc h (op2L (fun x y => x * y) stk)
  | .land => nxs (pc + 1) loc h (op2L (fun x y => x &&& y) stk)
  | .lor => nxs (pc + 1) loc h (op2L (fun x y => x ||| y) stk)
  | .lxor => nxs (pc + 1) loc h (op2L (fun x y => x ^^^ y) stk)
  | .lshl => nxs (pc + 1) loc h (opSh (fun x y => x <<< (y.toInt64 &&& 63)) stk)
  | .lshr => nxs (pc + 1) loc h (opSh (fun x y => x >>> (y.toInt64 &&& 63)) stk)
  | .lushr => nxs (pc + 1) loc h (opSh (fun x y => (x.toUInt64 >>> (y.toInt64.toUInt64 &&& Int64.toUInt64 63)).toInt64) stk)
  | .lcmp => nxs (pc + 1) loc h (opCmp stk)
  | .i2l => nxs (pc + 1) loc h (opIL (fun x => x.toInt64) stk)
  | .l2i => nxs (pc + 1) loc h (opLI (fun x => x.toInt32) stk)
  | .i2b => nxs (pc + 1) loc h (opI (fun x => x.toInt8.toInt32) stk)
  | .i2s => nxs (pc + 1) loc h (opI (fun x => x.toInt16.toInt32) stk)
  | .dup => nxs (pc + 1) loc h (opDup stk)
  | .dup2 => nxs (pc + 1) loc h (opDup2 stk)
  | .ifCond c off => stIf pc loc h c off stk
  | .if_icmp c off => stCmp pc loc h c off stk
  | .goto off => match jok pc off with
    | true => nx (jmp pc off) loc stk h
    | false => none
  | .ifnull off => stNull pc loc h off stk
  | .ifnonnull off => stNon pc loc h off stk
  | .tableswitch dflt lo hi offs => stSw pc loc h dflt (tok lo hi offs.toList) (tbl lo offs.toList) stk
  | .lookupswitch dflt ps => stSw pc loc h dflt (swok ps.toList) ps.toList stk
  | .getfield i => gfl pc loc h (lk y i) stk
  | .putfield i => pfl pc loc h (lk y i) stk
  | .iaload => arI pc loc h stk
  | .laload => arL pc loc h stk
  | .aaload => arA pc loc h stk
  | .iastore => asI pc loc h stk
  | .lastore => asL pc loc h stk
  | .invokestatic i => ivS y pc loc h (lk y i) stk
  | .invokevirtual i => ivV y pc loc (lk y i) stk
  | .ireturn => rtI (md y).2.2.2.1 stk
  | .lreturn => rtL (md y).2.2.2.1 stk
  | .areturn => rtA (md y).2.2.2.1 stk
  | .return_ => rtV (md y).2.2.2.1 stk
  | _ => none
def lok : Instr → Nat → Bool
  | .bipush _, n => Nat.beq n 2
  | .sipush _, n => Nat.beq n 3
  | .ldc _, n => Nat.beq n 2
  | .ldc2_w _, n => Nat.beq n 3
  | .iload _, n => Nat.beq n 2
  | .lload _, n => Nat.beq n 2
  | .aload _, n => Nat.beq n 2
  | .istore _, n => Nat.beq n 2
  | .lstore _, n => Nat.beq n 2
  | .astore _, n => Nat.beq n 2
  | .iinc _ _, n => Nat.beq n 3
  | .ifCond _ _, n => Nat.beq n 3
  | .if_icmp _ _, n => Nat.beq n 3
  | .goto _, n => Nat.beq n 3
  | .ifnull _, n => Nat.beq n 3
  | .ifnonnull _, n => Nat.beq n 3
  | .getfield _, n => Nat.beq n 3
  | .putfield _, n => Nat.beq n 3
  | .invokestatic _, n => Nat.beq n 3
  | .invokevirtual _, n => Nat.beq n 3
  | .tableswitch _ _ _ _, _ => true
  | .lookupswitch _ _, _ => true
  | _, n => Nat.beq n 1
def stp (y pc : Nat) (loc : mL) (stk : List Value) (h : mH) : mR := match decode (md y).2.1 pc with
  | .ok (i, n) => match lok i n with
    | true => stI y pc loc stk h i
    | false => none
  | .error _ => none
def ents : List Value → mL
  | [] => []
  | .long x :: r => some (.long x) :: none :: ents r
  | .double x :: r => some (.double x) :: none :: ents r
  | v :: r => some v :: ents r
def ent (y : Nat) (as : List Value) : mL := ents as ++ List.replicate ((md y).2.2.1 - (ents as).length) none
def retK : Option FieldType → Option Value → Option (List Value)
  | none, none => some []
  | some .int, some (.int r) => some [.int r]
  | some .boolean, some (.int r) => some [.int r]
  | some .long, some (.long r) => some [.long r]
  | some (.object _), some (.ref k) => some [.ref k]
  | some (.object _), some .null => some [.null]
  | _, _ => none
def run : Nat → Nat → Nat → mL → List Value → mH → Option (Option Value × mH)
  | 0, _, _, _, _, _ => none
  | n + 1, y, pc, loc, stk, h => match stp y pc loc stk h with
    | none => none
    | some (.inl (pc', loc', stk', h')) => run n y pc' loc' stk' h'
    | some (.inr (.inl (y', as, pc', loc', r))) => (run n y' 0 (ent y' as) [] h).bind fun q => (retK (md y').2.2.2.1 q.1).bind fun vs => run n y pc' loc' (vs ++ r) q.2
    | some (.inr (.inr v)) => some (v, h)
theorem run_mono : ∀ (n y pc : Nat) (loc : mL) (stk : List Value) (h : mH) (r : Option Value × mH), run n y pc loc stk h = some r → run (n + 1) y pc loc stk h = some r
  | 0, _, _, _, _, _, _, hr => by simp [run] at hr
  | n + 1, y, pc, loc, stk, h, r, hr => by
    unfold run at hr ⊢
    cases hs : stp y pc loc stk h with
    | none => rw [hs] at hr; cases hr
    | some q =>
      rw [hs] at hr
      match q with
      | .inl (pc', loc', stk', h') => exact run_mono n y pc' loc' stk' h' r hr
      | .inr (.inl (y', as, pc', loc', r')) =>
        dsimp only at hr ⊢
        obtain ⟨q1, h1, h2⟩ := Option.bind_eq_some_iff.mp hr
        obtain ⟨vs, h3, h4⟩ := Option.bind_eq_some_iff.mp h2
        rw [run_mono n y' 0 (ent y' as) [] h q1 h1]
        show ((retK (md y').2.2.2.1 q1.1).bind fun vs => run (n + 1) y pc' loc' (vs ++ r') q1.2) = some r
        rw [h3]
        exact run_mono n y pc' loc' (vs ++ r') q1.2 r h4
      | .inr (.inr v) => exact hr
theorem run_le {n m : Nat} (hnm : n ≤ m) {y pc : Nat} {loc : mL} {stk : List Value} {h : mH} {r : Option Value × mH} (hr : run n y pc loc stk h = some r) : run m y pc loc stk h = some r := by
  induction hnm with
  | refl => exact hr
  | step _ ih => exact run_mono _ _ _ _ _ _ _ ih
theorem run_lim (y pc : Nat) (loc : mL) (stk : List Value) (h : mH) : ∃ o, ∃ n, ∀ k, n ≤ k → run k y pc loc stk h = o := by
  rcases Classical.em (∃ n r, run n y pc loc stk h = some r) with ⟨n, r, hr⟩ | hn
  · exact ⟨some r, n, fun k hk => run_le hk hr⟩
  · refine ⟨none, 0, fun k _ => ?_⟩
    cases hk : run k y pc loc stk h with
    | none => rfl
    | some r => exact absurd ⟨k, r, hk⟩ hn
/-- what a method comes to from here: none, if it never ends -/
noncomputable def Ev (y pc : Nat) (loc : mL) (stk : List Value) (h : mH) : Option (Option Value × mH) := Classical.choose (run_lim y pc loc stk h)
theorem ev_lim (y pc : Nat) (loc : mL) (stk : List Value) (h : mH) : ∃ n, ∀ k, n ≤ k → run k y pc loc stk h = Ev y pc loc stk h := Classical.choose_spec (run_lim y pc loc stk h)
theorem ev_of_run {n y pc : Nat} {loc : mL} {stk : List Value} {h : mH} {r : Option Value × mH} (hr : run n y pc loc stk h = some r) : Ev y pc loc stk h = some r := by
  obtain ⟨k, hk⟩ := ev_lim y pc loc stk h
  rw [← hk (k + n) (by omega)]
  exact run_le (by omega) hr
theorem run_of_ev {y pc : Nat} {loc : mL} {stk : List Value} {h : mH} {r : Option Value × mH} (hr : Ev y pc loc stk h = some r) : ∃ n, run n y pc loc stk h = some r := by
  obtain ⟨k, hk⟩ := ev_lim y pc loc stk h
  exact ⟨k, (hk k (Nat.le_refl k)).trans hr⟩
noncomputable def Rt (y : Nat) (as : List Value) (h : mH) : Option (Option Value × mH) := Ev y 0 (ent y as) [] h
noncomputable def fin (y : Nat) (h : mH) : mR → Option (Option Value × mH)
  | none => none
  | some (.inl (pc', loc', stk', h')) => Ev y pc' loc' stk' h'
  | some (.inr (.inl (y', as, pc', loc', r))) => (Rt y' as h).bind fun q => (retK (md y').2.2.2.1 q.1).bind fun vs => Ev y pc' loc' (vs ++ r) q.2
  | some (.inr (.inr v)) => some (v, h)
theorem ev_fin (y pc : Nat) (loc : mL) (stk : List Value) (h : mH) : Ev y pc loc stk h = fin y h (stp y pc loc stk h) := by
  obtain ⟨k, hk⟩ := ev_lim y pc loc stk h
  cases hs : stp y pc loc stk h with
  | none =>
    rw [← hk (k + 1) (by omega)]
    unfold run; rw [hs]; rfl
  | some q =>
    match q with
    | .inl (pc', loc', stk', h') =>
      obtain ⟨k2, hk2⟩ := ev_lim y pc' loc' stk' h'
      show _ = Ev y pc' loc' stk' h'
      rw [← hk (k + k2 + 1) (by omega), ← hk2 (k + k2) (by omega)]
      conv => lhs; unfold run
      rw [hs]
    | .inr (.inr v) =>
      rw [← hk (k + 1) (by omega)]
      unfold run; rw [hs]; rfl
    | .inr (.inl (y', as, pc', loc', r)) =>
      obtain ⟨k2, hk2⟩ := ev_lim y' 0 (ent y' as) [] h
      show _ = (Rt y' as h).bind fun q => (retK (md y').2.2.2.1 q.1).bind fun vs => Ev y pc' loc' (vs ++ r) q.2
      cases hc : Rt y' as h with
      | none =>
        have hc' : Ev y' 0 (ent y' as) [] h = none := hc
        rw [← hk (k + k2 + 1) (by omega)]
        conv => lhs; unfold run
        rw [hs]
        show ((run (k + k2) y' 0 (ent y' as) [] h).bind _) = _
        rw [hk2 (k + k2) (by omega), hc']; rfl
      | some q =>
        have hc' : Ev y' 0 (ent y' as) [] h = some q := hc
        show _ = (retK (md y').2.2.2.1 q.1).bind fun vs => Ev y pc' loc' (vs ++ r) q.2
        cases hv : retK (md y').2.2.2.1 q.1 with
        | none =>
          rw [← hk (k + k2 + 1) (by omega)]
          conv => lhs; unfold run
          rw [hs]
          show ((run (k + k2) y' 0 (ent y' as) [] h).bind _) = _
          rw [hk2 (k + k2) (by omega), hc']
          show ((retK (md y').2.2.2.1 q.1).bind _) = _
          rw [hv]; rfl
        | some vs =>
          obtain ⟨k3, hk3⟩ := ev_lim y pc' loc' (vs ++ r) q.2
          show _ = Ev y pc' loc' (vs ++ r) q.2
          rw [← hk (k + k2 + k3 + 1) (by omega), ← hk3 (k + k2 + k3) (by omega)]
          conv => lhs; unfold run
          rw [hs]
          show ((run (k + k2 + k3) y' 0 (ent y' as) [] h).bind _) = _
          rw [hk2 (k + k2 + k3) (by omega), hc']
          show ((retK (md y').2.2.2.1 q.1).bind _) = _
          rw [hv]; rfl
theorem ev_step {y pc : Nat} {loc : mL} {stk : List Value} {h : mH} {i : Instr} {len : Nat} (hd : decode (md y).2.1 pc = .ok (i, len)) (hn : lok i len = true) : Ev y pc loc stk h = fin y h (stI y pc loc stk h i) := by
  rw [ev_fin]
  unfold stp
  rw [hd]
  dsimp only
  rw [hn]
/-- what a call gives, by the kind of its answer -/
def rI (o : Option (Option Value × mH)) (k : Int32 → mH → Option (Option Value × mH)) : Option (Option Value × mH) := match o with
  | some (some (.int r), h) => k r h
  | _ => none
def rL (o : Option (Option Value × mH)) (k : Int64 → mH → Option (Option Value × mH)) : Option (Option Value × mH) := match o with
  | some (some (.long r), h) => k r h
  | _ => none
def rV (o : Option (Option Value × mH)) (k : mH → Option (Option Value × mH)) : Option (Option Value × mH) := match o with
  | some (none, h) => k h
  | _ => none
def rA (o : Option (Option Value × mH)) (k : Value → mH → Option (Option Value × mH)) : Option (Option Value × mH) := match o with
  | some (some (.ref r), h) => k (.ref r) h
  | some (some .null, h) => k .null h
  | _ => none
theorem rI_some (r : Int32) (h : mH) (k : Int32 → mH → Option (Option Value × mH)) : rI (some (some (.int r), h)) k = k r h := rfl
theorem rL_some (r : Int64) (h : mH) (k : Int64 → mH → Option (Option Value × mH)) : rL (some (some (.long r), h)) k = k r h := rfl
theorem rV_some (h : mH) (k : mH → Option (Option Value × mH)) : rV (some (none, h)) k = k h := rfl
theorem rA_ref (r : Nat) (h : mH) (k : Value → mH → Option (Option Value × mH)) : rA (some (some (.ref r), h)) k = k (.ref r) h := rfl
theorem rA_null (h : mH) (k : Value → mH → Option (Option Value × mH)) : rA (some (some .null, h)) k = k .null h := rfl
theorem fin_nx (y : Nat) (h : mH) (pc' : Nat) (loc' : mL) (stk' : List Value) (h' : mH) : fin y h (some (.inl (pc', loc', stk', h'))) = Ev y pc' loc' stk' h' := rfl
theorem fin_if (y : Nat) (h : mH) (p : Prop) [d : Decidable p] (a b : mR) : fin y h (if p then a else b) = if p then fin y h a else fin y h b := by split <;> rfl
theorem fin_I {y y' pc' : Nat} {as r : List Value} {loc' : mL} {h : mH} (hk : (md y').2.2.2.1 = some .int ∨ (md y').2.2.2.1 = some .boolean) : fin y h (some (.inr (.inl (y', as, pc', loc', r)))) = rI (Rt y' as h) (fun x h1 => Ev y pc' loc' (.int x :: r) h1) := by
  show (Rt y' as h).bind _ = _
  rcases hk with hk | hk <;> rw [hk] <;> rcases Rt y' as h with _ | ⟨_ | v, h1⟩ <;> first | rfl | (cases v <;> rfl)
theorem fin_L {y y' pc' : Nat} {as r : List Value} {loc' : mL} {h : mH} (hk : (md y').2.2.2.1 = some .long) : fin y h (some (.inr (.inl (y', as, pc', loc', r)))) = rL (Rt y' as h) (fun x h1 => Ev y pc' loc' (.long x :: r) h1) := by
  show (Rt y' as h).bind _ = _
  rw [hk]; rcases Rt y' as h with _ | ⟨_ | v, h1⟩ <;> first | rfl | (cases v <;> rfl)
theorem fin_V {y y' pc' : Nat} {as r : List Value} {loc' : mL} {h : mH} (hk : (md y').2.2.2.1 = none) : fin y h (some (.inr (.inl (y', as, pc', loc', r)))) = rV (Rt y' as h) (fun h1 => Ev y pc' loc' r h1) := by
  show (Rt y' as h).bind _ = _
  rw [hk]; rcases Rt y' as h with _ | ⟨_ | v, h1⟩ <;> first | rfl | (cases v <;> rfl)
theorem fin_A {y y' pc' : Nat} {as r : List Value} {loc' : mL} {h : mH} {n : String} (hk : (md y').2.2.2.1 = some (.object n)) : fin y h (some (.inr (.inl (y', as, pc', loc', r)))) = rA (Rt y' as h) (fun x h1 => Ev y pc' loc' (x :: r) h1) := by
  show (Rt y' as h).bind _ = _
  rw [hk]; rcases Rt y' as h with _ | ⟨_ | v, h1⟩ <;> first | rfl | (cases v <;> rfl)
