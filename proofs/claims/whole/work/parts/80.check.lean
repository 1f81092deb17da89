/-! THE LINK, 1: words, the table's checks -/
def tk (b sA vA : Nat) (vF : Value) (k : UInt32) : Value := if k = 0 then .ref b else if k = 1 then .ref sA else if k = 2 then .ref vA else vF
def tr (z : Nat) (T : UInt32 → Value) : Value → Value
  | .ref i => .ref (z + i)
  | .float k => T k
  | v => v
def Big : List Jvm.Cond := lw_tbl.filter goodWord
def nestT : List (String × Nat × MethodName) := [("NeedleTelegraph", 9, ⟨"NeedleTelegraph$Reader", "<init>", "()V"⟩), ("NeedleTelegraph$Reader", 11, ⟨"NeedleTelegraph$Letters", "<init>", "()V"⟩), ("NeedleTelegraph$Reader", 20, ⟨"NeedleTelegraph$Valley", "<init>", "()V"⟩), ("NeedleTelegraph$Moment", 17, ⟨"NeedleTelegraph$Message", "<init>", "()V"⟩), ("NeedleTelegraph", 23, ⟨"NeedleTelegraph$Valley", "<init>", "()V"⟩), ("NeedleTelegraph", 52, ⟨"NeedleTelegraph$Seen", "<init>", "()V"⟩), ("NeedleTelegraph$Letters", 19, ⟨"NeedleTelegraph", "set", "([III)V"⟩), ("NeedleTelegraph$Reader", 89, ⟨"NeedleTelegraph", "isBetween", "(III)Z"⟩), ("NeedleTelegraph$Valley", 33, ⟨"NeedleTelegraph", "isBetween", "(III)Z"⟩), ("NeedleTelegraph$Valley", 37, ⟨"NeedleTelegraph", "set", "([III)V"⟩), ("NeedleTelegraph$Moment", 44, ⟨"NeedleTelegraph", "isIn", "(II)Z"⟩), ("NeedleTelegraph$Valley", 25, ⟨"NeedleTelegraph", "at", "([II)I"⟩), ("NeedleTelegraph$Rows", 10, ⟨"NeedleTelegraph", "isBetween", "(III)Z"⟩), ("NeedleTelegraph$Message", 30, ⟨"NeedleTelegraph", "isIn", "(II)Z"⟩), ("NeedleTelegraph$Valley", 70, ⟨"NeedleTelegraph", "isIn", "(II)Z"⟩), ("NeedleTelegraph$Seen", 25, ⟨"NeedleTelegraph", "set", "([III)V"⟩), ("NeedleTelegraph$Seen", 29, ⟨"NeedleTelegraph", "at", "([II)I"⟩)]
def refF (ci k : Nat) : Bool := decide (¬ ((vwCl.getD ci (RX0, TX0, 0)).2.1 k).2.2.1 = "I")
def wAt (B : Nat) (w : Jvm.Cond) : Bool := decide (lw_tbl[B]? = some w)
theorem big_in {B : Nat} {w : Jvm.Cond} (h : wAt B w = true) (hg : goodWord w = true) : w ∈ Big := List.mem_filter.mpr ⟨List.mem_of_getElem? (of_decide_eq_true h), hg⟩
theorem big_good : ∀ w ∈ Big, goodWord w = true := fun w h => (List.mem_filter.mp h).2
/-- a field's row of the code: its link, whether it holds a reference -/
def fOk (own : String) (ix A B : Nat) (cv : Int32) : Bool := match vwCl[A / 100]? with
  | some c => decide (A % 100 < c.2.2) && (wAt B (.fieldLink own ix (c.2.1 (A % 100)).1 (c.2.1 (A % 100)).2.1 (c.2.1 (A % 100)).2.2.1) && (decide (refF (A / 100) (A % 100) = decide (cv = 1)) && decide (cv = 0 ∨ cv = 1)))
  | none => false
def finOk (own nm : String) (A : Nat) : Bool := match vwCl[A / 100]? with
  | some c => match (c.2.1 (A % 100)).2.2.2 with
    | true => decide (nm = "<init>") && decide ((c.2.1 (A % 100)).1 = own)
    | false => true
  | none => false
/-- v: the call is one of an object's methods by class -/
def callOk (own : String) (ix A B : Nat) (cv : Int32) (v : Bool) : Bool := match MTl[A]? with
  | some c => decide (A < 191 ∧ A ≠ 5 ∧ (v = true → c.1.name ≠ "<init>")) && (if cv = 1 then !v && decide ((own, ix, c.1) ∈ nestT) else wAt B (.methodLink own ix c.1))
  | none => decide (A = 9998)
def okW (mt : Mth) (pc : Nat) (e : Ent) : Bool := match e.1 with
  | .iload _ => decide (e.2.1 = pc + 2)
  | .lload _ => decide (e.2.1 = pc + 2)
  | .aload _ => decide (e.2.1 = pc + 2)
  | .istore k => decide (e.2.1 = pc + 2) && decide (k < mt.2.2.1)
  | .astore k => decide (e.2.1 = pc + 2) && decide (k < mt.2.2.1)
  | .lstore k => decide (e.2.1 = pc + 2) && decide (k + 1 < mt.2.2.1)
  | .istore_n k => decide (e.2.1 = pc + 1) && decide (k.val < mt.2.2.1)
  | .astore_n k => decide (e.2.1 = pc + 1) && decide (k.val < mt.2.2.1)
  | .lstore_n k => decide (e.2.1 = pc + 1) && decide (k.val + 1 < mt.2.2.1)
  | .iinc k w => decide (e.2.1 = pc + 3) && (decide (k < mt.2.2.1) && decide (Int32.ofInt w = e.2.2.2.2))
  | .iconst w => decide (e.2.1 = pc + 1) && decide (Int32.ofInt w = e.2.2.2.2)
  | .bipush w => decide (e.2.1 = pc + 2) && decide ((Int8.ofInt w).toInt32 = e.2.2.2.2)
  | .sipush w => decide (e.2.1 = pc + 3) && decide ((Int16.ofInt w).toInt32 = e.2.2.2.2)
  | .lconst w => decide (e.2.1 = pc + 1) && decide (Int64.ofNat (w : Nat) = e.2.2.2.2.toInt64)
  | .ldc ix => decide (e.2.1 = pc + 2) && (if e.2.2.1 = 1 then decide (mt.1.cls = "NeedleTelegraph") && decide (ix = 57) else wAt e.2.2.2.1 (.constant mt.1.cls ix e.2.2.2.2))
  | .ldc_w ix => decide (e.2.1 = pc + 3) && wAt e.2.2.2.1 (.constant mt.1.cls ix e.2.2.2.2)
  | .ldc2_w ix => decide (e.2.1 = pc + 3) && wAt e.2.2.2.1 (.constantLong mt.1.cls ix e.2.2.2.2.toInt64)
  | .goto o => decide (e.2.1 = pc + 3) && decide ((pc : Int) + o = (e.2.2.1 : Int))
  | .if_icmp _ o => decide (e.2.1 = pc + 3) && decide ((pc : Int) + o = (e.2.2.1 : Int))
  | .ifCond _ o => decide (e.2.1 = pc + 3) && decide ((pc : Int) + o = (e.2.2.1 : Int))
  | .ifnonnull o => decide (e.2.1 = pc + 3) && decide ((pc : Int) + o = (e.2.2.1 : Int))
  | .tableswitch d _ _ offs => decide (0 ≤ (pc : Int) + d) && offs.toList.all (fun o => decide (0 ≤ (pc : Int) + o))
  | .getfield ix => decide (e.2.1 = pc + 3) && (if e.2.2.1 = 9000 then wAt e.2.2.2.1 (.fieldLink mt.1.cls ix "java/lang/String" "value" "[B") else if e.2.2.1 = 9001 then wAt e.2.2.2.1 (.fieldLink mt.1.cls ix "java/lang/String" "coder" "B") else fOk mt.1.cls ix e.2.2.1 e.2.2.2.1 e.2.2.2.2)
  | .putfield ix => decide (e.2.1 = pc + 3) && (fOk mt.1.cls ix e.2.2.1 e.2.2.2.1 e.2.2.2.2 && finOk mt.1.cls mt.1.name e.2.2.1)
  | .getstatic ix => decide (e.2.1 = pc + 3) && (if e.2.2.1 = 0 then wAt e.2.2.2.1 (.fieldLink mt.1.cls ix "java/lang/String" "COMPACT_STRINGS" "Z") else wAt e.2.2.2.1 (.fieldLink mt.1.cls ix "jdk/internal/util/Preconditions" "SIOOBE_FORMATTER" "Ljava/util/function/BiFunction;"))
  | .new ix => decide (e.2.1 = pc + 3) && (match vwCl[e.2.2.1]? with
    | some c => wAt e.2.2.2.1 (.classLink mt.1.cls ix c.1)
    | none => false)
  | .newarray t => decide (e.2.1 = pc + 2) && decide (t = .int)
  | .anewarray ix => decide (e.2.1 = pc + 3) && (if e.2.2.1 = 21 then wAt e.2.2.2.1 (.classLink mt.1.cls ix "NeedleTelegraph$Message") else decide (e.2.2.1 = 22) && wAt e.2.2.2.1 (.classLink mt.1.cls ix "NeedleTelegraph$Moment"))
  | .invokevirtual ix => decide (e.2.1 = pc + 3) && callOk mt.1.cls ix e.2.2.1 e.2.2.2.1 e.2.2.2.2 true
  | .invokestatic ix => decide (e.2.1 = pc + 3) && (if e.2.2.1 = 9997 then wAt e.2.2.2.1 (.methodLink mt.1.cls ix Lib.Math.max.name) else callOk mt.1.cls ix e.2.2.1 e.2.2.2.1 e.2.2.2.2 false)
  | .invokespecial ix => decide (e.2.1 = pc + 3) && (if e.2.2.1 = 9999 then wAt e.2.2.2.1 (.methodLink mt.1.cls ix objectInit) else callOk mt.1.cls ix e.2.2.1 e.2.2.2.1 e.2.2.2.2 false)
  | _ => decide (e.2.1 = pc + 1)
def okE (mt : Mth) (pc : Nat) (e : Ent) : Bool := decide (decode mt.2.1 pc = .ok (e.1, e.2.1 - pc)) && okW mt pc e
def okC (mt : Mth) : Nat → List (Option Ent) → Bool
  | _, [] => true
  | pc, none :: l => okC mt (pc + 1) l
  | pc, some e :: l => okE mt pc e && okC mt (pc + 1) l
theorem okC_spec {mt : Mth} : ∀ {l : List (Option Ent)} {pc k : Nat} {e : Ent}, okC mt pc l = true → (l[k]?).join = some e → okE mt (pc + k) e = true := by
  intro l
  induction l with
  | nil => intro pc k e _ h; simp at h
  | cons o l ih =>
    intro pc k e h hk
    cases k with
    | zero =>
      cases o with
      | none => simp at hk
      | some e' =>
        simp at hk
        subst hk
        simp only [okC, Bool.and_eq_true] at h
        exact h.1
    | succ k =>
      have hk' : (l[k]?).join = some e := by simpa using hk
      have h' : okC mt (pc + 1) l = true := by
        cases o with
        | none => exact h
        | some e' => simp only [okC, Bool.and_eq_true] at h; exact h.2
      have := ih h' hk'
      rwa [show pc + 1 + k = pc + (k + 1) by omega] at this
/-- places of a method's own words: its code, static or of an object, selects, its class is initialized -/
def MWl : List (Nat × Nat × Nat × Nat) := [(73, 72, 0, 41), (87, 86, 0, 42), (113, 112, 0, 44), (106, 105, 0, 43), (67, 66, 0, 40), (187, 186, 0, 46), (183, 182, 0, 45), (202, 201, 0, 47), (225, 223, 224, 48), (221, 219, 220, 48), (235, 233, 234, 48), (246, 245, 0, 50), (241, 240, 0, 48), (238, 237, 0, 49), (231, 229, 230, 48), (272, 271, 0, 39), (269, 267, 268, 41), (280, 278, 279, 42), (284, 282, 283, 43), (288, 286, 287, 41), (300, 298, 299, 41), (296, 295, 1, 40), (315, 314, 0, 39), (312, 311, 4, 40), (308, 307, 3, 40), (319, 317, 318, 42), (304, 303, 2, 40), (332, 331, 0, 52), (329, 328, 6, 40), (336, 334, 335, 42), (344, 342, 343, 43), (348, 346, 347, 44), (340, 338, 339, 43), (325, 324, 5, 40), (359, 358, 0, 39), (356, 354, 355, 43), (363, 361, 362, 43), (352, 351, 7, 40), (292, 291, 0, 40), (276, 274, 275, 40), (379, 378, 0, 39), (376, 374, 375, 42), (383, 381, 382, 42), (387, 385, 386, 42), (371, 369, 370, 42), (396, 394, 395, 44), (392, 390, 391, 43), (400, 398, 399, 47), (404, 402, 403, 45), (367, 366, 8, 39), (408, 406, 407, 41), (59, 58, 0, 39), (758, 757, 13, 53), (762, 761, 14, 53), (766, 765, 15, 53), (773, 772, 0, 53), (770, 769, 16, 53), (753, 752, 0, 53), (438, 436, 437, 39), (856, 855, 0, 53), (853, 851, 852, 53), (444, 442, 443, 39), (860, 858, 859, 53), (448, 446, 447, 39), (876, 875, 19, 53), (884, 883, 21, 53), (880, 879, 20, 53), (892, 891, 23, 53), (888, 887, 22, 53), (872, 871, 18, 53), (868, 867, 17, 53), (864, 862, 863, 53), (456, 454, 455, 42), (452, 450, 451, 39), (896, 894, 895, 53), (473, 471, 472, 44), (469, 467, 468, 43), (460, 458, 459, 39), (904, 903, 24, 53), (911, 910, 0, 53), (908, 907, 25, 53), (900, 898, 899, 53), (481, 479, 480, 43), (477, 475, 476, 39), (919, 918, 26, 53), (915, 913, 914, 53), (497, 496, 0, 52), (500, 499, 0, 52), (492, 491, 0, 52), (489, 488, 0, 52), (506, 505, 0, 52), (510, 509, 0, 52), (503, 502, 0, 52), (486, 484, 485, 39), (926, 925, 0, 53), (933, 932, 0, 53), (936, 935, 0, 53), (930, 929, 0, 53), (923, 921, 922, 53), (522, 521, 9, 45), (518, 516, 517, 45), (543, 541, 542, 42), (537, 536, 10, 44), (531, 529, 530, 44), (527, 525, 526, 43), (548, 546, 547, 43), (514, 512, 513, 39), (944, 943, 27, 53), (955, 954, 0, 53), (952, 951, 29, 53), (948, 947, 28, 53), (958, 957, 0, 53), (940, 938, 939, 53), (552, 550, 551, 39), (962, 960, 961, 53), (562, 560, 561, 43), (566, 564, 565, 43), (557, 555, 556, 39), (966, 964, 965, 53), (571, 569, 570, 39), (970, 968, 969, 53), (579, 577, 578, 45), (583, 581, 582, 45), (575, 573, 574, 39), (974, 972, 973, 53), (595, 593, 594, 42), (591, 589, 590, 42), (605, 603, 604, 42), (601, 599, 600, 42), (587, 585, 586, 39), (986, 985, 31, 53), (982, 981, 30, 53), (978, 976, 977, 53), (614, 612, 613, 44), (623, 621, 622, 44), (619, 617, 618, 43), (610, 608, 609, 39), (994, 993, 32, 53), (990, 988, 989, 53), (628, 626, 627, 39), (998, 996, 997, 53), (632, 630, 631, 39), (1002, 1000, 1001, 53), (639, 638, 0, 54), (636, 634, 635, 39), (1009, 1008, 0, 53), (1013, 1012, 33, 53), (1006, 1004, 1005, 53), (650, 648, 649, 43), (646, 644, 645, 39), (1020, 1019, 0, 53), (1017, 1015, 1016, 53), (658, 656, 657, 42), (654, 652, 653, 39), (1028, 1027, 34, 53), (1024, 1022, 1023, 53), (666, 664, 665, 47), (671, 669, 670, 47), (662, 660, 661, 39), (1032, 1030, 1031, 53), (675, 673, 674, 39), (1036, 1034, 1035, 53), (687, 685, 686, 47), (683, 682, 11, 39), (679, 677, 678, 39), (1044, 1043, 35, 53), (1040, 1038, 1039, 53), (693, 691, 692, 39), (1048, 1046, 1047, 53), (703, 702, 0, 52), (700, 699, 0, 39), (708, 706, 707, 42), (713, 712, 0, 39), (697, 695, 696, 39), (1059, 1058, 0, 53), (1056, 1055, 36, 53), (1062, 1061, 0, 53), (1052, 1050, 1051, 53), (720, 719, 0, 39), (727, 726, 12, 39), (731, 729, 730, 43), (717, 715, 716, 39), (1066, 1064, 1065, 53), (735, 733, 734, 39), (1073, 1071, 1072, 53), (739, 737, 738, 39), (1077, 1075, 1076, 53), (747, 745, 746, 43), (743, 741, 742, 39), (1085, 1084, 37, 53), (1081, 1079, 1080, 53), (0, 0, 0, 38)]
def okM (mt : Mth) (w : Nat × Nat × Nat × Nat) : Bool := wAt w.1 (.code mt.1 mt.2.1 mt.2.2.1 mt.2.2.2.1) && (wAt w.2.2.2 (.initialized mt.1.cls) &&
  ((if mt.2.2.2.2.2.1 = true then wAt w.2.1 (.static mt.1) else wAt w.2.1 (.instanceMethod mt.1) && (decide (mt.1.name = "<init>") || wAt w.2.2.1 (.selects mt.1.cls mt.1 mt.1))) &&
  (decide ((parseMethodDescriptor mt.1.desc).map (fun d => d.parameters.length) = some (if mt.2.2.2.2.2.1 = true then mt.2.2.2.2.1 else mt.2.2.2.2.1 - 1)) &&
  (decide (mt.1.cls ≠ "java/lang/invoke/MethodHandle") && (decide (mt.1.cls ≠ "java/lang/invoke/VarHandle") && (plainName mt.1.cls && (decide (mt.2.2.1 ≤ 40) &&
  (mt.2.2.2.2.2.1 || (decide (1 ≤ mt.2.2.2.2.1) && (match vwCl[mt.2.2.2.2.2.2]? with
    | some c => decide (c.1 = mt.1.cls)
    | none => decide (mt.2.2.2.2.2.2 = 50) && decide (mt.1.cls = "java/lang/String"))))))))))) 
theorem okc_0 : ((List.range 16).all fun i => okC (MTl.getD (0 + i) m_0) 0 (MCl.getD (0 + i) [])) = true := by decide +kernel
theorem okc_16 : ((List.range 16).all fun i => okC (MTl.getD (16 + i) m_0) 0 (MCl.getD (16 + i) [])) = true := by decide +kernel
theorem okc_32 : ((List.range 16).all fun i => okC (MTl.getD (32 + i) m_0) 0 (MCl.getD (32 + i) [])) = true := by decide +kernel
theorem okc_48 : ((List.range 16).all fun i => okC (MTl.getD (48 + i) m_0) 0 (MCl.getD (48 + i) [])) = true := by decide +kernel
theorem okc_64 : ((List.range 16).all fun i => okC (MTl.getD (64 + i) m_0) 0 (MCl.getD (64 + i) [])) = true := by decide +kernel
theorem okc_80 : ((List.range 16).all fun i => okC (MTl.getD (80 + i) m_0) 0 (MCl.getD (80 + i) [])) = true := by decide +kernel
theorem okc_96 : ((List.range 16).all fun i => okC (MTl.getD (96 + i) m_0) 0 (MCl.getD (96 + i) [])) = true := by decide +kernel
theorem okc_112 : ((List.range 16).all fun i => okC (MTl.getD (112 + i) m_0) 0 (MCl.getD (112 + i) [])) = true := by decide +kernel
theorem okc_128 : ((List.range 16).all fun i => okC (MTl.getD (128 + i) m_0) 0 (MCl.getD (128 + i) [])) = true := by decide +kernel
theorem okc_144 : ((List.range 16).all fun i => okC (MTl.getD (144 + i) m_0) 0 (MCl.getD (144 + i) [])) = true := by decide +kernel
theorem okc_160 : ((List.range 16).all fun i => okC (MTl.getD (160 + i) m_0) 0 (MCl.getD (160 + i) [])) = true := by decide +kernel
theorem okc_176 : ((List.range 8).all fun i => okC (MTl.getD (176 + i) m_0) 0 (MCl.getD (176 + i) [])) = true := by decide +kernel
theorem okc_184 : ((List.range 7).all fun i => okC (MTl.getD (184 + i) m_0) 0 (MCl.getD (184 + i) [])) = true := by decide +kernel
