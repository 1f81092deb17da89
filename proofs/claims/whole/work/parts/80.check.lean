/-! THE LINK, 1: words, the table's checks -/
def tk (b sA vA : Nat) (vF : Value) (k : UInt32) : Value := if k = 0 then .ref b else if k = 1 then .ref sA else if k = 2 then .ref vA else vF
def tr (z : Nat) (T : UInt32 → Value) : Value → Value
  | .ref i => .ref (z + i)
  | .float k => T k
  | v => v
def Big : List Jvm.Cond := lw_tbl.filter goodWord
def nestT : List (String × Nat × MethodName) := [("NeedleTelegraph", 9, ⟨"NeedleTelegraph$Letters", "<init>", "()V"⟩), ("NeedleTelegraph$Reader", 11, ⟨"NeedleTelegraph$Valley", "<init>", "()V"⟩), ("NeedleTelegraph$Moment", 17, ⟨"NeedleTelegraph$Message", "<init>", "()V"⟩), ("NeedleTelegraph", 27, ⟨"NeedleTelegraph$Valley", "<init>", "()V"⟩), ("NeedleTelegraph", 56, ⟨"NeedleTelegraph$Seen", "<init>", "()V"⟩), ("NeedleTelegraph$Letters", 19, ⟨"NeedleTelegraph", "set", "([III)V"⟩), ("NeedleTelegraph$Reader", 88, ⟨"NeedleTelegraph", "isBetween", "(III)Z"⟩), ("NeedleTelegraph$Valley", 33, ⟨"NeedleTelegraph", "isBetween", "(III)Z"⟩), ("NeedleTelegraph$Valley", 37, ⟨"NeedleTelegraph", "set", "([III)V"⟩), ("NeedleTelegraph$Moment", 44, ⟨"NeedleTelegraph", "isIn", "(II)Z"⟩), ("NeedleTelegraph$Valley", 25, ⟨"NeedleTelegraph", "at", "([II)I"⟩), ("NeedleTelegraph$Rows", 10, ⟨"NeedleTelegraph", "isBetween", "(III)Z"⟩), ("NeedleTelegraph$Message", 30, ⟨"NeedleTelegraph", "isIn", "(II)Z"⟩), ("NeedleTelegraph$Valley", 70, ⟨"NeedleTelegraph", "isIn", "(II)Z"⟩), ("NeedleTelegraph$Seen", 25, ⟨"NeedleTelegraph", "set", "([III)V"⟩), ("NeedleTelegraph$Seen", 29, ⟨"NeedleTelegraph", "at", "([II)I"⟩)]
def refF (ci k : Nat) : Bool := decide (¬ ((vwCl.getD ci (RX0, TX0, 0)).2.1 k).2.2.1 = "I")
def wAt (B : Nat) (w : Jvm.Cond) : Bool := decide (lw_tbl[B]? = some w)
theorem big_in {B : Nat} {w : Jvm.Cond} (h : wAt B w = true) (hg : goodWord w = true) : w ∈ Big := List.mem_filter.mpr ⟨List.mem_of_getElem? (of_decide_eq_true h), hg⟩
theorem big_good : ∀ w ∈ Big, goodWord w = true := fun w h => (List.mem_filter.mp h).2
/-- a field's row of the code: its link, whether it holds a reference -/
def fOk (own : String) (ix A B : Nat) (cv : Int32) : Bool := match vwCl[A / 100]? with
  | some c => decide (A % 100 < c.2.2) && (wAt B (.fieldLink own ix (c.2.1 (A % 100)).1 (c.2.1 (A % 100)).2.1 (c.2.1 (A % 100)).2.2.1) && (decide (refF (A / 100) (A % 100) = decide (cv = 1)) && decide (cv = 0 ∨ cv = 1)))
  | none => false
def finOk (own nm : String) (A : Nat) : Bool := match vwCl[A / 100]? with
  | some c => match (c.2.1 (A % 100)).2.2.2 with
    | true => decide (nm = "<init>") && decide ((c.2.1 (A % 100)).1 = own)
    | false => true
  | none => false
/-- v: the call is one of an object's methods by class -/
def callOk (own : String) (ix A B : Nat) (cv : Int32) (v : Bool) : Bool := match MTl[A]? with
  | some c => decide (A < 191 ∧ A ≠ 5 ∧ (v = true → c.1.name ≠ "<init>")) && (if cv = 1 then !v && decide ((own, ix, c.1) ∈ nestT) else wAt B (.methodLink own ix c.1))
  | none => decide (A = 9998)
def okW (mt : Mth) (pc : Nat) (e : Ent) : Bool := match e.1 with
  | .iload _ => decide (e.2.1 = pc + 2)
  | .lload _ => decide (e.2.1 = pc + 2)
  | .aload _ => decide (e.2.1 = pc + 2)
  | .istore k => decide (e.2.1 = pc + 2) && decide (k < mt.2.2.1)
  | .astore k => decide (e.2.1 = pc + 2) && decide (k < mt.2.2.1)
  | .lstore k => decide (e.2.1 = pc + 2) && decide (k + 1 < mt.2.2.1)
  | .istore_n k => decide (e.2.1 = pc + 1) && decide (k.val < mt.2.2.1)
  | .astore_n k => decide (e.2.1 = pc + 1) && decide (k.val < mt.2.2.1)
  | .lstore_n k => decide (e.2.1 = pc + 1) && decide (k.val + 1 < mt.2.2.1)
  | .iinc k w => decide (e.2.1 = pc + 3) && (decide (k < mt.2.2.1) && decide (Int32.ofInt w = e.2.2.2.2))
  | .iconst w => decide (e.2.1 = pc + 1) && decide (Int32.ofInt w = e.2.2.2.2)
  | .bipush w => decide (e.2.1 = pc + 2) && decide ((Int8.ofInt w).toInt32 = e.2.2.2.2)
  | .sipush w => decide (e.2.1 = pc + 3) && decide ((Int16.ofInt w).toInt32 = e.2.2.2.2)
  | .lconst w => decide (e.2.1 = pc + 1) && decide (Int64.ofNat (w : Nat) = e.2.2.2.2.toInt64)
  | .ldc ix => decide (e.2.1 = pc + 2) && (if e.2.2.1 = 1 then decide (mt.1.cls = "NeedleTelegraph") && decide (ix = 61) else wAt e.2.2.2.1 (.constant mt.1.cls ix e.2.2.2.2))
  | .ldc_w ix => decide (e.2.1 = pc + 3) && wAt e.2.2.2.1 (.constant mt.1.cls ix e.2.2.2.2)
  | .ldc2_w ix => decide (e.2.1 = pc + 3) && wAt e.2.2.2.1 (.constantLong mt.1.cls ix e.2.2.2.2.toInt64)
  | .goto o => decide (e.2.1 = pc + 3) && decide ((pc : Int) + o = (e.2.2.1 : Int))
  | .if_icmp _ o => decide (e.2.1 = pc + 3) && decide ((pc : Int) + o = (e.2.2.1 : Int))
  | .ifCond _ o => decide (e.2.1 = pc + 3) && decide ((pc : Int) + o = (e.2.2.1 : Int))
  | .ifnonnull o => decide (e.2.1 = pc + 3) && decide ((pc : Int) + o = (e.2.2.1 : Int))
  | .tableswitch d _ _ offs => decide (0 ≤ (pc : Int) + d) && offs.toList.all (fun o => decide (0 ≤ (pc : Int) + o))
  | .getfield ix => decide (e.2.1 = pc + 3) && (if e.2.2.1 = 9000 then wAt e.2.2.2.1 (.fieldLink mt.1.cls ix "java/lang/String" "value" "[B") else if e.2.2.1 = 9001 then wAt e.2.2.2.1 (.fieldLink mt.1.cls ix "java/lang/String" "coder" "B") else fOk mt.1.cls ix e.2.2.1 e.2.2.2.1 e.2.2.2.2)
  | .putfield ix => decide (e.2.1 = pc + 3) && (fOk mt.1.cls ix e.2.2.1 e.2.2.2.1 e.2.2.2.2 && finOk mt.1.cls mt.1.name e.2.2.1)
  | .getstatic ix => decide (e.2.1 = pc + 3) && (if e.2.2.1 = 0 then wAt e.2.2.2.1 (.fieldLink mt.1.cls ix "java/lang/String" "COMPACT_STRINGS" "Z") else wAt e.2.2.2.1 (.fieldLink mt.1.cls ix "jdk/internal/util/Preconditions" "SIOOBE_FORMATTER" "Ljava/util/function/BiFunction;"))
  | .new ix => decide (e.2.1 = pc + 3) && (match vwCl[e.2.2.1]? with
    | some c => wAt e.2.2.2.1 (.classLink mt.1.cls ix c.1)
    | none => false)
  | .newarray t => decide (e.2.1 = pc + 2) && decide (t = .int)
  | .anewarray ix => decide (e.2.1 = pc + 3) && (if e.2.2.1 = 21 then wAt e.2.2.2.1 (.classLink mt.1.cls ix "NeedleTelegraph$Message") else decide (e.2.2.1 = 22) && wAt e.2.2.2.1 (.classLink mt.1.cls ix "NeedleTelegraph$Moment"))
  | .invokevirtual ix => decide (e.2.1 = pc + 3) && callOk mt.1.cls ix e.2.2.1 e.2.2.2.1 e.2.2.2.2 true
  | .invokestatic ix => decide (e.2.1 = pc + 3) && (if e.2.2.1 = 9997 then wAt e.2.2.2.1 (.methodLink mt.1.cls ix Lib.Math.max.name) else callOk mt.1.cls ix e.2.2.1 e.2.2.2.1 e.2.2.2.2 false)
  | .invokespecial ix => decide (e.2.1 = pc + 3) && (if e.2.2.1 = 9999 then wAt e.2.2.2.1 (.methodLink mt.1.cls ix objectInit) else callOk mt.1.cls ix e.2.2.1 e.2.2.2.1 e.2.2.2.2 false)
  | _ => decide (e.2.1 = pc + 1)
def okE (mt : Mth) (pc : Nat) (e : Ent) : Bool := decide (decode mt.2.1 pc = .ok (e.1, e.2.1 - pc)) && okW mt pc e
def okC (mt : Mth) : Nat → List (Option Ent) → Bool
  | _, [] => true
  | pc, none :: l => okC mt (pc + 1) l
  | pc, some e :: l => okE mt pc e && okC mt (pc + 1) l
theorem okC_spec {mt : Mth} : ∀ {l : List (Option Ent)} {pc k : Nat} {e : Ent}, okC mt pc l = true → (l[k]?).join = some e → okE mt (pc + k) e = true := by
  intro l
  induction l with
  | nil => intro pc k e _ h; simp at h
  | cons o l ih =>
    intro pc k e h hk
    cases k with
    | zero =>
      cases o with
      | none => simp at hk
      | some e' =>
        simp at hk
        subst hk
        simp only [okC, Bool.and_eq_true] at h
        exact h.1
    | succ k =>
      have hk' : (l[k]?).join = some e := by simpa using hk
      have h' : okC mt (pc + 1) l = true := by
        cases o with
        | none => exact h
        | some e' => simp only [okC, Bool.and_eq_true] at h; exact h.2
      have := ih h' hk'
      rwa [show pc + 1 + k = pc + (k + 1) by omega] at this
/-- places of a method's own words: its code, static or of an object, selects, its class is initialized -/
def MWl : List (Nat × Nat × Nat × Nat) := [(68, 67, 0, 41), (88, 87, 0, 43), (114, 113, 0, 45), (107, 106, 0, 44), (82, 81, 0, 42), (187, 186, 0, 47), (183, 182, 0, 46), (202, 201, 0, 48), (225, 223, 224, 49), (221, 219, 220, 49), (235, 233, 234, 49), (246, 245, 0, 51), (241, 240, 0, 49), (238, 237, 0, 50), (231, 229, 230, 49), (272, 271, 0, 40), (269, 267, 268, 41), (280, 278, 279, 43), (284, 282, 283, 44), (288, 286, 287, 41), (300, 298, 299, 41), (296, 295, 1, 42), (315, 314, 0, 40), (312, 311, 4, 42), (308, 307, 3, 42), (319, 317, 318, 43), (304, 303, 2, 42), (332, 331, 0, 53), (329, 328, 6, 42), (336, 334, 335, 43), (344, 342, 343, 44), (348, 346, 347, 45), (340, 338, 339, 44), (325, 324, 5, 42), (359, 358, 0, 40), (356, 354, 355, 44), (363, 361, 362, 44), (352, 351, 7, 42), (292, 291, 0, 42), (276, 274, 275, 42), (379, 378, 0, 40), (376, 374, 375, 43), (383, 381, 382, 43), (387, 385, 386, 43), (371, 369, 370, 43), (396, 394, 395, 45), (392, 390, 391, 44), (400, 398, 399, 48), (404, 402, 403, 46), (367, 366, 8, 40), (408, 406, 407, 41), (60, 59, 0, 40), (759, 758, 14, 54), (763, 762, 15, 54), (767, 766, 16, 54), (774, 773, 0, 54), (771, 770, 17, 54), (754, 753, 0, 54), (438, 436, 437, 40), (857, 856, 0, 54), (854, 852, 853, 54), (444, 442, 443, 40), (861, 859, 860, 54), (448, 446, 447, 40), (877, 876, 20, 54), (885, 884, 22, 54), (881, 880, 21, 54), (893, 892, 24, 54), (889, 888, 23, 54), (873, 872, 19, 54), (869, 868, 18, 54), (865, 863, 864, 54), (456, 454, 455, 43), (452, 450, 451, 40), (897, 895, 896, 54), (473, 471, 472, 45), (469, 467, 468, 44), (460, 458, 459, 40), (905, 904, 25, 54), (912, 911, 0, 54), (909, 908, 26, 54), (901, 899, 900, 54), (481, 479, 480, 44), (477, 475, 476, 40), (920, 919, 27, 54), (916, 914, 915, 54), (497, 496, 0, 53), (500, 499, 0, 53), (492, 491, 0, 53), (489, 488, 0, 53), (506, 505, 0, 53), (510, 509, 0, 53), (503, 502, 0, 53), (486, 484, 485, 40), (927, 926, 0, 54), (934, 933, 0, 54), (937, 936, 0, 54), (931, 930, 0, 54), (924, 922, 923, 54), (522, 521, 9, 46), (518, 516, 517, 46), (543, 541, 542, 43), (537, 536, 10, 45), (531, 529, 530, 45), (527, 525, 526, 44), (548, 546, 547, 44), (514, 512, 513, 40), (945, 944, 28, 54), (956, 955, 0, 54), (953, 952, 30, 54), (949, 948, 29, 54), (959, 958, 0, 54), (941, 939, 940, 54), (552, 550, 551, 40), (963, 961, 962, 54), (562, 560, 561, 44), (566, 564, 565, 44), (557, 555, 556, 40), (967, 965, 966, 54), (571, 569, 570, 40), (971, 969, 970, 54), (579, 577, 578, 46), (583, 581, 582, 46), (575, 573, 574, 40), (975, 973, 974, 54), (595, 593, 594, 43), (591, 589, 590, 43), (605, 603, 604, 43), (601, 599, 600, 43), (587, 585, 586, 40), (987, 986, 32, 54), (983, 982, 31, 54), (979, 977, 978, 54), (614, 612, 613, 45), (623, 621, 622, 45), (619, 617, 618, 44), (610, 608, 609, 40), (995, 994, 33, 54), (991, 989, 990, 54), (628, 626, 627, 40), (999, 997, 998, 54), (632, 630, 631, 40), (1003, 1001, 1002, 54), (639, 638, 0, 55), (636, 634, 635, 40), (1010, 1009, 0, 54), (1014, 1013, 34, 54), (1007, 1005, 1006, 54), (650, 648, 649, 44), (646, 644, 645, 40), (1021, 1020, 0, 54), (1018, 1016, 1017, 54), (658, 656, 657, 43), (654, 652, 653, 40), (1029, 1028, 35, 54), (1025, 1023, 1024, 54), (666, 664, 665, 48), (671, 669, 670, 48), (662, 660, 661, 40), (1033, 1031, 1032, 54), (675, 673, 674, 40), (1037, 1035, 1036, 54), (687, 685, 686, 48), (683, 682, 11, 40), (679, 677, 678, 40), (1045, 1044, 36, 54), (1041, 1039, 1040, 54), (693, 691, 692, 40), (1049, 1047, 1048, 54), (704, 703, 0, 53), (701, 700, 12, 40), (709, 707, 708, 43), (714, 713, 0, 40), (697, 695, 696, 40), (1060, 1059, 0, 54), (1057, 1056, 37, 54), (1063, 1062, 0, 54), (1053, 1051, 1052, 54), (721, 720, 0, 40), (728, 727, 13, 40), (732, 730, 731, 44), (718, 716, 717, 40), (1067, 1065, 1066, 54), (736, 734, 735, 40), (1074, 1072, 1073, 54), (740, 738, 739, 40), (1078, 1076, 1077, 54), (748, 746, 747, 44), (744, 742, 743, 40), (1086, 1085, 38, 54), (1082, 1080, 1081, 54), (0, 0, 0, 39)]
def okM (mt : Mth) (w : Nat × Nat × Nat × Nat) : Bool := wAt w.1 (.code mt.1 mt.2.1 mt.2.2.1 mt.2.2.2.1) && (wAt w.2.2.2 (.initialized mt.1.cls) &&
  ((if mt.2.2.2.2.2.1 = true then wAt w.2.1 (.static mt.1) else wAt w.2.1 (.instanceMethod mt.1) && (decide (mt.1.name = "<init>") || wAt w.2.2.1 (.selects mt.1.cls mt.1 mt.1))) &&
  (decide ((parseMethodDescriptor mt.1.desc).map (fun d => d.parameters.length) = some (if mt.2.2.2.2.2.1 = true then mt.2.2.2.2.1 else mt.2.2.2.2.1 - 1)) &&
  (decide (mt.1.cls ≠ "java/lang/invoke/MethodHandle") && (decide (mt.1.cls ≠ "java/lang/invoke/VarHandle") && (plainName mt.1.cls && (decide (mt.2.2.1 ≤ 40) &&
  (mt.2.2.2.2.2.1 || (decide (1 ≤ mt.2.2.2.2.1) && (match vwCl[mt.2.2.2.2.2.2]? with
    | some c => decide (c.1 = mt.1.cls)
    | none => decide (mt.2.2.2.2.2.2 = 50) && decide (mt.1.cls = "java/lang/String"))))))))))) 
theorem okc_0 : ((List.range 16).all fun i => okC (MTl.getD (0 + i) m_0) 0 (MCl.getD (0 + i) [])) = true := by decide +kernel
theorem okc_16 : ((List.range 16).all fun i => okC (MTl.getD (16 + i) m_0) 0 (MCl.getD (16 + i) [])) = true := by decide +kernel
theorem okc_32 : ((List.range 16).all fun i => okC (MTl.getD (32 + i) m_0) 0 (MCl.getD (32 + i) [])) = true := by decide +kernel
theorem okc_48 : ((List.range 16).all fun i => okC (MTl.getD (48 + i) m_0) 0 (MCl.getD (48 + i) [])) = true := by decide +kernel
theorem okc_64 : ((List.range 16).all fun i => okC (MTl.getD (64 + i) m_0) 0 (MCl.getD (64 + i) [])) = true := by decide +kernel
theorem okc_80 : ((List.range 16).all fun i => okC (MTl.getD (80 + i) m_0) 0 (MCl.getD (80 + i) [])) = true := by decide +kernel
theorem okc_96 : ((List.range 16).all fun i => okC (MTl.getD (96 + i) m_0) 0 (MCl.getD (96 + i) [])) = true := by decide +kernel
theorem okc_112 : ((List.range 16).all fun i => okC (MTl.getD (112 + i) m_0) 0 (MCl.getD (112 + i) [])) = true := by decide +kernel
theorem okc_128 : ((List.range 16).all fun i => okC (MTl.getD (128 + i) m_0) 0 (MCl.getD (128 + i) [])) = true := by decide +kernel
theorem okc_144 : ((List.range 16).all fun i => okC (MTl.getD (144 + i) m_0) 0 (MCl.getD (144 + i) [])) = true := by decide +kernel
theorem okc_160 : ((List.range 16).all fun i => okC (MTl.getD (160 + i) m_0) 0 (MCl.getD (160 + i) [])) = true := by decide +kernel
theorem okc_176 : ((List.range 8).all fun i => okC (MTl.getD (176 + i) m_0) 0 (MCl.getD (176 + i) [])) = true := by decide +kernel
theorem okc_184 : ((List.range 7).all fun i => okC (MTl.getD (184 + i) m_0) 0 (MCl.getD (184 + i) [])) = true := by decide +kernel
