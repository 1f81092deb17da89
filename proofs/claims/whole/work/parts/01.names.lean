-- ===== PART A: goes FIRST, ahead of the names: the tables' words, and 'selects' of the private methods out of them =====
/-- a private method of a class that the tables say can be made, by its rows of tables_1 -/
def lw_okq (q : MethodName × Nat) : Prop := (q.1.cls ≠ "java/lang/invoke/MethodHandle" ∧ q.1.cls ≠ "java/lang/invoke/VarHandle") ∧ Cond.instantiable q.1.cls q.2 ∈ tables_1 ∧ Cond.privateMethod q.1 ∈ tables_1 ∧ Cond.instanceMethod q.1 ∈ tables_1
theorem lw_p0 : lw_okq (⟨"NeedleTelegraph$Reader", "readItem", "()Z"⟩, 4) := ⟨⟨by decide +kernel, by decide +kernel⟩, List.mem_of_getElem? (i := 26) (by decide +kernel), List.mem_of_getElem? (i := 252) (by decide +kernel), List.mem_of_getElem? (i := 253) (by decide +kernel)⟩
theorem lw_p1 : lw_okq (⟨"NeedleTelegraph$Reader", "takes", "(I)Z"⟩, 4) := ⟨⟨by decide +kernel, by decide +kernel⟩, List.mem_of_getElem? (i := 26) (by decide +kernel), List.mem_of_getElem? (i := 256) (by decide +kernel), List.mem_of_getElem? (i := 257) (by decide +kernel)⟩
theorem lw_p2 : lw_okq (⟨"NeedleTelegraph$Reader", "readChair", "()Z"⟩, 4) := ⟨⟨by decide +kernel, by decide +kernel⟩, List.mem_of_getElem? (i := 26) (by decide +kernel), List.mem_of_getElem? (i := 264) (by decide +kernel), List.mem_of_getElem? (i := 265) (by decide +kernel)⟩
theorem lw_p3 : lw_okq (⟨"NeedleTelegraph$Reader", "number", "()I"⟩, 4) := ⟨⟨by decide +kernel, by decide +kernel⟩, List.mem_of_getElem? (i := 26) (by decide +kernel), List.mem_of_getElem? (i := 268) (by decide +kernel), List.mem_of_getElem? (i := 269) (by decide +kernel)⟩
theorem lw_p4 : lw_okq (⟨"NeedleTelegraph$Reader", "figure", "()I"⟩, 4) := ⟨⟨by decide +kernel, by decide +kernel⟩, List.mem_of_getElem? (i := 26) (by decide +kernel), List.mem_of_getElem? (i := 272) (by decide +kernel), List.mem_of_getElem? (i := 273) (by decide +kernel)⟩
theorem lw_p5 : lw_okq (⟨"NeedleTelegraph$Reader", "readMessage", "()Z"⟩, 4) := ⟨⟨by decide +kernel, by decide +kernel⟩, List.mem_of_getElem? (i := 26) (by decide +kernel), List.mem_of_getElem? (i := 285) (by decide +kernel), List.mem_of_getElem? (i := 286) (by decide +kernel)⟩
theorem lw_p6 : lw_okq (⟨"NeedleTelegraph$Reader", "row", "()I"⟩, 4) := ⟨⟨by decide +kernel, by decide +kernel⟩, List.mem_of_getElem? (i := 26) (by decide +kernel), List.mem_of_getElem? (i := 289) (by decide +kernel), List.mem_of_getElem? (i := 290) (by decide +kernel)⟩
theorem lw_p7 : lw_okq (⟨"NeedleTelegraph$Reader", "readIndoors", "()Z"⟩, 4) := ⟨⟨by decide +kernel, by decide +kernel⟩, List.mem_of_getElem? (i := 26) (by decide +kernel), List.mem_of_getElem? (i := 312) (by decide +kernel), List.mem_of_getElem? (i := 313) (by decide +kernel)⟩
theorem lw_p8 : lw_okq (⟨"NeedleTelegraph", "layWhatWasRead", "()V"⟩, 8) := ⟨⟨by decide +kernel, by decide +kernel⟩, List.mem_of_getElem? (i := 18) (by decide +kernel), List.mem_of_getElem? (i := 327) (by decide +kernel), List.mem_of_getElem? (i := 328) (by decide +kernel)⟩
theorem lw_p9 : lw_okq (⟨"NeedleTelegraph$Pile", "dropOldest", "()V"⟩, 2) := ⟨⟨by decide +kernel, by decide +kernel⟩, List.mem_of_getElem? (i := 142) (by decide +kernel), List.mem_of_getElem? (i := 482) (by decide +kernel), List.mem_of_getElem? (i := 483) (by decide +kernel)⟩
theorem lw_p10 : lw_okq (⟨"NeedleTelegraph$Message", "knitOn", "(LNeedleTelegraph$Valley;I)V"⟩, 6) := ⟨⟨by decide +kernel, by decide +kernel⟩, List.mem_of_getElem? (i := 72) (by decide +kernel), List.mem_of_getElem? (i := 497) (by decide +kernel), List.mem_of_getElem? (i := 498) (by decide +kernel)⟩
theorem lw_p11 : lw_okq (⟨"NeedleTelegraph", "kindsThatDo", "(I)I"⟩, 8) := ⟨⟨by decide +kernel, by decide +kernel⟩, List.mem_of_getElem? (i := 18) (by decide +kernel), List.mem_of_getElem? (i := 643) (by decide +kernel), List.mem_of_getElem? (i := 644) (by decide +kernel)⟩
theorem lw_p12 : lw_okq (⟨"NeedleTelegraph", "happen", "(I)V"⟩, 8) := ⟨⟨by decide +kernel, by decide +kernel⟩, List.mem_of_getElem? (i := 18) (by decide +kernel), List.mem_of_getElem? (i := 687) (by decide +kernel), List.mem_of_getElem? (i := 688) (by decide +kernel)⟩
theorem lw_p13 : lw_okq (⟨"NeedleTelegraphModel", "anew", "()V"⟩, 25) := ⟨⟨by decide +kernel, by decide +kernel⟩, List.mem_of_getElem? (i := 712) (by decide +kernel), List.mem_of_getElem? (i := 718) (by decide +kernel), List.mem_of_getElem? (i := 719) (by decide +kernel)⟩
theorem lw_p14 : lw_okq (⟨"NeedleTelegraphModel", "sits", "(III)V"⟩, 25) := ⟨⟨by decide +kernel, by decide +kernel⟩, List.mem_of_getElem? (i := 712) (by decide +kernel), List.mem_of_getElem? (i := 722) (by decide +kernel), List.mem_of_getElem? (i := 723) (by decide +kernel)⟩
theorem lw_p15 : lw_okq (⟨"NeedleTelegraphModel", "begins", "(III)V"⟩, 25) := ⟨⟨by decide +kernel, by decide +kernel⟩, List.mem_of_getElem? (i := 712) (by decide +kernel), List.mem_of_getElem? (i := 726) (by decide +kernel), List.mem_of_getElem? (i := 727) (by decide +kernel)⟩
def lw_privs_1 : List (MethodName × Nat) := [(⟨"NeedleTelegraph$Reader", "readItem", "()Z"⟩, 4), (⟨"NeedleTelegraph$Reader", "takes", "(I)Z"⟩, 4), (⟨"NeedleTelegraph$Reader", "readChair", "()Z"⟩, 4), (⟨"NeedleTelegraph$Reader", "number", "()I"⟩, 4), (⟨"NeedleTelegraph$Reader", "figure", "()I"⟩, 4), (⟨"NeedleTelegraph$Reader", "readMessage", "()Z"⟩, 4), (⟨"NeedleTelegraph$Reader", "row", "()I"⟩, 4), (⟨"NeedleTelegraph$Reader", "readIndoors", "()Z"⟩, 4), (⟨"NeedleTelegraph", "layWhatWasRead", "()V"⟩, 8), (⟨"NeedleTelegraph$Pile", "dropOldest", "()V"⟩, 2), (⟨"NeedleTelegraph$Message", "knitOn", "(LNeedleTelegraph$Valley;I)V"⟩, 6), (⟨"NeedleTelegraph", "kindsThatDo", "(I)I"⟩, 8), (⟨"NeedleTelegraph", "happen", "(I)V"⟩, 8), (⟨"NeedleTelegraphModel", "anew", "()V"⟩, 25), (⟨"NeedleTelegraphModel", "sits", "(III)V"⟩, 25), (⟨"NeedleTelegraphModel", "begins", "(III)V"⟩, 25)]
theorem lw_r1 : ∀ q ∈ lw_privs_1, lw_okq q := List.forall_mem_cons.mpr ⟨lw_p0, List.forall_mem_cons.mpr ⟨lw_p1, List.forall_mem_cons.mpr ⟨lw_p2, List.forall_mem_cons.mpr ⟨lw_p3, List.forall_mem_cons.mpr ⟨lw_p4, List.forall_mem_cons.mpr ⟨lw_p5, List.forall_mem_cons.mpr ⟨lw_p6, List.forall_mem_cons.mpr ⟨lw_p7, List.forall_mem_cons.mpr ⟨lw_p8, List.forall_mem_cons.mpr ⟨lw_p9, List.forall_mem_cons.mpr ⟨lw_p10, List.forall_mem_cons.mpr ⟨lw_p11, List.forall_mem_cons.mpr ⟨lw_p12, List.forall_mem_cons.mpr ⟨lw_p13, List.forall_mem_cons.mpr ⟨lw_p14, List.forall_mem_cons.mpr ⟨lw_p15, fun _ h => absurd h List.not_mem_nil⟩⟩⟩⟩⟩⟩⟩⟩⟩⟩⟩⟩⟩⟩⟩⟩
theorem lw_p16 : lw_okq (⟨"NeedleTelegraphModel", "laid", "()V"⟩, 25) := ⟨⟨by decide +kernel, by decide +kernel⟩, List.mem_of_getElem? (i := 712) (by decide +kernel), List.mem_of_getElem? (i := 730) (by decide +kernel), List.mem_of_getElem? (i := 731) (by decide +kernel)⟩
theorem lw_p17 : lw_okq (⟨"NeedleTelegraphModel", "faultOf", "()I"⟩, 25) := ⟨⟨by decide +kernel, by decide +kernel⟩, List.mem_of_getElem? (i := 712) (by decide +kernel), List.mem_of_getElem? (i := 828) (by decide +kernel), List.mem_of_getElem? (i := 829) (by decide +kernel)⟩
theorem lw_p18 : lw_okq (⟨"NeedleTelegraphModel", "readsItem", "()Z"⟩, 25) := ⟨⟨by decide +kernel, by decide +kernel⟩, List.mem_of_getElem? (i := 712) (by decide +kernel), List.mem_of_getElem? (i := 832) (by decide +kernel), List.mem_of_getElem? (i := 833) (by decide +kernel)⟩
theorem lw_p19 : lw_okq (⟨"NeedleTelegraphModel", "here", "()I"⟩, 25) := ⟨⟨by decide +kernel, by decide +kernel⟩, List.mem_of_getElem? (i := 712) (by decide +kernel), List.mem_of_getElem? (i := 836) (by decide +kernel), List.mem_of_getElem? (i := 837) (by decide +kernel)⟩
theorem lw_p20 : lw_okq (⟨"NeedleTelegraphModel", "readsChair", "()Z"⟩, 25) := ⟨⟨by decide +kernel, by decide +kernel⟩, List.mem_of_getElem? (i := 712) (by decide +kernel), List.mem_of_getElem? (i := 840) (by decide +kernel), List.mem_of_getElem? (i := 841) (by decide +kernel)⟩
theorem lw_p21 : lw_okq (⟨"NeedleTelegraphModel", "number", "(I)I"⟩, 25) := ⟨⟨by decide +kernel, by decide +kernel⟩, List.mem_of_getElem? (i := 712) (by decide +kernel), List.mem_of_getElem? (i := 844) (by decide +kernel), List.mem_of_getElem? (i := 845) (by decide +kernel)⟩
theorem lw_p22 : lw_okq (⟨"NeedleTelegraphModel", "readsMessage", "()Z"⟩, 25) := ⟨⟨by decide +kernel, by decide +kernel⟩, List.mem_of_getElem? (i := 712) (by decide +kernel), List.mem_of_getElem? (i := 848) (by decide +kernel), List.mem_of_getElem? (i := 849) (by decide +kernel)⟩
theorem lw_p23 : lw_okq (⟨"NeedleTelegraphModel", "stitches", "()I"⟩, 25) := ⟨⟨by decide +kernel, by decide +kernel⟩, List.mem_of_getElem? (i := 712) (by decide +kernel), List.mem_of_getElem? (i := 852) (by decide +kernel), List.mem_of_getElem? (i := 853) (by decide +kernel)⟩
theorem lw_p24 : lw_okq (⟨"NeedleTelegraphModel", "isChair", "(I)Z"⟩, 25) := ⟨⟨by decide +kernel, by decide +kernel⟩, List.mem_of_getElem? (i := 712) (by decide +kernel), List.mem_of_getElem? (i := 864) (by decide +kernel), List.mem_of_getElem? (i := 865) (by decide +kernel)⟩
theorem lw_p25 : lw_okq (⟨"NeedleTelegraphModel", "atChair", "(I)I"⟩, 25) := ⟨⟨by decide +kernel, by decide +kernel⟩, List.mem_of_getElem? (i := 712) (by decide +kernel), List.mem_of_getElem? (i := 868) (by decide +kernel), List.mem_of_getElem? (i := 869) (by decide +kernel)⟩
theorem lw_p26 : lw_okq (⟨"NeedleTelegraphModel", "isMessage", "(I)Z"⟩, 25) := ⟨⟨by decide +kernel, by decide +kernel⟩, List.mem_of_getElem? (i := 712) (by decide +kernel), List.mem_of_getElem? (i := 879) (by decide +kernel), List.mem_of_getElem? (i := 880) (by decide +kernel)⟩
theorem lw_p27 : lw_okq (⟨"NeedleTelegraphModel", "remember", "()V"⟩, 25) := ⟨⟨by decide +kernel, by decide +kernel⟩, List.mem_of_getElem? (i := 712) (by decide +kernel), List.mem_of_getElem? (i := 904) (by decide +kernel), List.mem_of_getElem? (i := 905) (by decide +kernel)⟩
theorem lw_p28 : lw_okq (⟨"NeedleTelegraphModel", "passes", "([I)V"⟩, 25) := ⟨⟨by decide +kernel, by decide +kernel⟩, List.mem_of_getElem? (i := 712) (by decide +kernel), List.mem_of_getElem? (i := 908) (by decide +kernel), List.mem_of_getElem? (i := 909) (by decide +kernel)⟩
theorem lw_p29 : lw_okq (⟨"NeedleTelegraphModel", "goesOn", "([II)V"⟩, 25) := ⟨⟨by decide +kernel, by decide +kernel⟩, List.mem_of_getElem? (i := 712) (by decide +kernel), List.mem_of_getElem? (i := 912) (by decide +kernel), List.mem_of_getElem? (i := 913) (by decide +kernel)⟩
theorem lw_p30 : lw_okq (⟨"NeedleTelegraphModel", "comesOf", "(II)I"⟩, 25) := ⟨⟨by decide +kernel, by decide +kernel⟩, List.mem_of_getElem? (i := 712) (by decide +kernel), List.mem_of_getElem? (i := 942) (by decide +kernel), List.mem_of_getElem? (i := 943) (by decide +kernel)⟩
theorem lw_p31 : lw_okq (⟨"NeedleTelegraphModel", "comesBy", "(IIII)I"⟩, 25) := ⟨⟨by decide +kernel, by decide +kernel⟩, List.mem_of_getElem? (i := 712) (by decide +kernel), List.mem_of_getElem? (i := 946) (by decide +kernel), List.mem_of_getElem? (i := 947) (by decide +kernel)⟩
def lw_privs_2 : List (MethodName × Nat) := [(⟨"NeedleTelegraphModel", "laid", "()V"⟩, 25), (⟨"NeedleTelegraphModel", "faultOf", "()I"⟩, 25), (⟨"NeedleTelegraphModel", "readsItem", "()Z"⟩, 25), (⟨"NeedleTelegraphModel", "here", "()I"⟩, 25), (⟨"NeedleTelegraphModel", "readsChair", "()Z"⟩, 25), (⟨"NeedleTelegraphModel", "number", "(I)I"⟩, 25), (⟨"NeedleTelegraphModel", "readsMessage", "()Z"⟩, 25), (⟨"NeedleTelegraphModel", "stitches", "()I"⟩, 25), (⟨"NeedleTelegraphModel", "isChair", "(I)Z"⟩, 25), (⟨"NeedleTelegraphModel", "atChair", "(I)I"⟩, 25), (⟨"NeedleTelegraphModel", "isMessage", "(I)Z"⟩, 25), (⟨"NeedleTelegraphModel", "remember", "()V"⟩, 25), (⟨"NeedleTelegraphModel", "passes", "([I)V"⟩, 25), (⟨"NeedleTelegraphModel", "goesOn", "([II)V"⟩, 25), (⟨"NeedleTelegraphModel", "comesOf", "(II)I"⟩, 25), (⟨"NeedleTelegraphModel", "comesBy", "(IIII)I"⟩, 25)]
theorem lw_r2 : ∀ q ∈ lw_privs_2, lw_okq q := List.forall_mem_cons.mpr ⟨lw_p16, List.forall_mem_cons.mpr ⟨lw_p17, List.forall_mem_cons.mpr ⟨lw_p18, List.forall_mem_cons.mpr ⟨lw_p19, List.forall_mem_cons.mpr ⟨lw_p20, List.forall_mem_cons.mpr ⟨lw_p21, List.forall_mem_cons.mpr ⟨lw_p22, List.forall_mem_cons.mpr ⟨lw_p23, List.forall_mem_cons.mpr ⟨lw_p24, List.forall_mem_cons.mpr ⟨lw_p25, List.forall_mem_cons.mpr ⟨lw_p26, List.forall_mem_cons.mpr ⟨lw_p27, List.forall_mem_cons.mpr ⟨lw_p28, List.forall_mem_cons.mpr ⟨lw_p29, List.forall_mem_cons.mpr ⟨lw_p30, List.forall_mem_cons.mpr ⟨lw_p31, fun _ h => absurd h List.not_mem_nil⟩⟩⟩⟩⟩⟩⟩⟩⟩⟩⟩⟩⟩⟩⟩⟩
theorem lw_p32 : lw_okq (⟨"NeedleTelegraphModel", "copyNow", "()V"⟩, 25) := ⟨⟨by decide +kernel, by decide +kernel⟩, List.mem_of_getElem? (i := 712) (by decide +kernel), List.mem_of_getElem? (i := 954) (by decide +kernel), List.mem_of_getElem? (i := 955) (by decide +kernel)⟩
theorem lw_p33 : lw_okq (⟨"NeedleTelegraphModel", "allOut", "(I)Z"⟩, 25) := ⟨⟨by decide +kernel, by decide +kernel⟩, List.mem_of_getElem? (i := 712) (by decide +kernel), List.mem_of_getElem? (i := 973) (by decide +kernel), List.mem_of_getElem? (i := 974) (by decide +kernel)⟩
theorem lw_p34 : lw_okq (⟨"NeedleTelegraphModel", "hanging", "(I)I"⟩, 25) := ⟨⟨by decide +kernel, by decide +kernel⟩, List.mem_of_getElem? (i := 712) (by decide +kernel), List.mem_of_getElem? (i := 988) (by decide +kernel), List.mem_of_getElem? (i := 989) (by decide +kernel)⟩
theorem lw_p35 : lw_okq (⟨"NeedleTelegraphModel", "isSo", "(II)Z"⟩, 25) := ⟨⟨by decide +kernel, by decide +kernel⟩, List.mem_of_getElem? (i := 712) (by decide +kernel), List.mem_of_getElem? (i := 1004) (by decide +kernel), List.mem_of_getElem? (i := 1005) (by decide +kernel)⟩
theorem lw_p36 : lw_okq (⟨"NeedleTelegraphModel", "slipped", "(III)I"⟩, 25) := ⟨⟨by decide +kernel, by decide +kernel⟩, List.mem_of_getElem? (i := 712) (by decide +kernel), List.mem_of_getElem? (i := 1016) (by decide +kernel), List.mem_of_getElem? (i := 1017) (by decide +kernel)⟩
theorem lw_p37 : lw_okq (⟨"NeedleTelegraphModel", "atChairs", "()I"⟩, 25) := ⟨⟨by decide +kernel, by decide +kernel⟩, List.mem_of_getElem? (i := 712) (by decide +kernel), List.mem_of_getElem? (i := 1045) (by decide +kernel), List.mem_of_getElem? (i := 1046) (by decide +kernel)⟩
def lw_privs_3 : List (MethodName × Nat) := [(⟨"NeedleTelegraphModel", "copyNow", "()V"⟩, 25), (⟨"NeedleTelegraphModel", "allOut", "(I)Z"⟩, 25), (⟨"NeedleTelegraphModel", "hanging", "(I)I"⟩, 25), (⟨"NeedleTelegraphModel", "isSo", "(II)Z"⟩, 25), (⟨"NeedleTelegraphModel", "slipped", "(III)I"⟩, 25), (⟨"NeedleTelegraphModel", "atChairs", "()I"⟩, 25)]
theorem lw_r3 : ∀ q ∈ lw_privs_3, lw_okq q := List.forall_mem_cons.mpr ⟨lw_p32, List.forall_mem_cons.mpr ⟨lw_p33, List.forall_mem_cons.mpr ⟨lw_p34, List.forall_mem_cons.mpr ⟨lw_p35, List.forall_mem_cons.mpr ⟨lw_p36, List.forall_mem_cons.mpr ⟨lw_p37, fun _ h => absurd h List.not_mem_nil⟩⟩⟩⟩⟩⟩
def lw_privs : List (MethodName × Nat) := lw_privs_1 ++ (lw_privs_2 ++ (lw_privs_3))
def lw_tbl : List Cond := k2_sels lw_privs ++ tables_1
theorem lw_privs_ok : ∀ q ∈ lw_privs, lw_okq q := by
  show ∀ q ∈ lw_privs_1 ++ (lw_privs_2 ++ (lw_privs_3)), lw_okq q
  exact List.forall_mem_append.mpr ⟨lw_r1, List.forall_mem_append.mpr ⟨lw_r2, lw_r3⟩⟩
theorem goodIn_r {big : List Cond} (ws : List Cond) (ps : List Nat) (hp : ws = ps.filterMap (fun i => big[i]?)) (h : ws.all goodWord = true) : GoodIn big ws := by
  intro w hw
  have h1 := List.all_eq_true.mp h w hw
  rw [hp] at hw
  obtain ⟨i, -, hi⟩ := List.mem_filterMap.mp hw
  have hm : w ∈ big := by first | exact List.mem_of_getElem? hi | exact List.getElem?_mem hi
  exact ⟨hm, good_of_word h1⟩
theorem goodIn_app {big a b : List Cond} (ha : GoodIn big a) (hb : GoodIn big b) : GoodIn big (a ++ b) := fun w h => (List.mem_append.mp h).elim (ha w) (hb w)
theorem goodIn_ca {big a b : List Cond} {c : Cond} (ha : GoodIn big (c :: a)) (hb : GoodIn big b) : GoodIn big (c :: (a ++ b)) := fun w h => (List.mem_cons.mp h).elim (fun e => ha w (List.mem_cons.mpr (Or.inl e))) (fun h => (List.mem_append.mp h).elim (fun h => ha w (List.mem_cons.mpr (Or.inr h))) (hb w))
theorem goodIn_sub {big ws : List Cond} (hm : ∀ w ∈ ws, w ∈ big) (h : ws.all goodWord = true) : GoodIn big ws := fun w hw => ⟨hm w hw, good_of_word (List.all_eq_true.mp h w hw)⟩

def RX0 : String := "NeedleTelegraph$Letters"
def TX0 : u_T := fun k => match k with
  | 0 => ("NeedleTelegraph$Letters", "letters", "[I", true)
  | _ => ("NeedleTelegraph$Letters", "length", "I", false)
def tyX0 : Nat → FieldType := fun k => match k with
  | 0 => .array .int
  | _ => .int
abbrev wsX00 : List Cond := u_ws RX0 TX0 2
theorem nmX0 : ∀ a, a < 2 → ∀ b, b < 2 → a ≠ b → (TX0 a).2.1 ≠ (TX0 b).2.1 := by decide +kernel
theorem tyX0_ok : ∀ k, k < 2 → parseFieldDescriptor (TX0 k).2.2.1 = some (tyX0 k) := by decide +kernel
abbrev cX0_init : ByteArray := prog_2_method_1_code
def yX0_init : MethodName := ⟨RX0, "<init>", "()V"⟩
abbrev cX0_length : ByteArray := prog_2_method_2_code
def yX0_length : MethodName := ⟨RX0, "length", "()I"⟩
abbrev cX0_add : ByteArray := prog_2_method_3_code
def yX0_add : MethodName := ⟨RX0, "add", "(I)Z"⟩
abbrev cX0_clear : ByteArray := prog_2_method_4_code
def yX0_clear : MethodName := ⟨RX0, "clear", "()V"⟩
abbrev cX0_get : ByteArray := prog_2_method_5_code
def yX0_get : MethodName := ⟨RX0, "get", "(I)I"⟩
def RX1 : String := "NeedleTelegraph$Message"
def TX1 : u_T := fun k => match k with
  | 0 => ("NeedleTelegraph$Message", "begins", "I", false)
  | 1 => ("NeedleTelegraph$Message", "state", "I", false)
  | 2 => ("NeedleTelegraph$Message", "chair", "I", false)
  | 3 => ("NeedleTelegraph$Message", "row", "I", false)
  | 4 => ("NeedleTelegraph$Message", "left", "I", false)
  | _ => ("NeedleTelegraph$Message", "outIn", "I", false)
def tyX1 : Nat → FieldType := fun k => match k with
  | 0 => .int
  | 1 => .int
  | 2 => .int
  | 3 => .int
  | 4 => .int
  | _ => .int
abbrev wsX10 : List Cond := u_ws RX1 TX1 6
theorem nmX1 : ∀ a, a < 6 → ∀ b, b < 6 → a ≠ b → (TX1 a).2.1 ≠ (TX1 b).2.1 := by decide +kernel
theorem tyX1_ok : ∀ k, k < 6 → parseFieldDescriptor (TX1 k).2.2.1 = some (tyX1 k) := by decide +kernel
abbrev cX1_init : ByteArray := prog_3_method_1_code
def yX1_init : MethodName := ⟨RX1, "<init>", "()V"⟩
abbrev cX1_startAs : ByteArray := prog_3_method_2_code
def yX1_startAs : MethodName := ⟨RX1, "startAs", "(III)V"⟩
abbrev cX1_copy : ByteArray := prog_3_method_3_code
def yX1_copy : MethodName := ⟨RX1, "copy", "(LNeedleTelegraph$Message;)V"⟩
abbrev cX1_isAt : ByteArray := prog_3_method_4_code
def yX1_isAt : MethodName := ⟨RX1, "isAt", "(I)Z"⟩
abbrev cX1_goThroughMinute : ByteArray := prog_3_method_5_code
def yX1_goThroughMinute : MethodName := ⟨RX1, "goThroughMinute", "(LNeedleTelegraph$Valley;II)V"⟩
abbrev cX1_knitOn : ByteArray := prog_3_method_6_code
def yX1_knitOn : MethodName := ⟨RX1, "knitOn", "(LNeedleTelegraph$Valley;I)V"⟩
abbrev cX1_chairsAhead : ByteArray := prog_3_method_7_code
def yX1_chairsAhead : MethodName := ⟨RX1, "chairsAhead", "(LNeedleTelegraph$Valley;)I"⟩
abbrev cX1_minutesToSea : ByteArray := prog_3_method_8_code
def yX1_minutesToSea : MethodName := ⟨RX1, "minutesToSea", "(LNeedleTelegraph$Valley;I)I"⟩
def RX2 : String := "NeedleTelegraph$Moment"
def TX2 : u_T := fun k => match k with
  | 0 => ("NeedleTelegraph$Moment", "messages", "[LNeedleTelegraph$Message;", true)
  | 1 => ("NeedleTelegraph$Moment", "noMessage", "LNeedleTelegraph$Message;", true)
  | 2 => ("NeedleTelegraph$Moment", "size", "I", false)
  | 3 => ("NeedleTelegraph$Moment", "minute", "I", false)
  | _ => ("NeedleTelegraph$Moment", "indoors", "I", false)
def tyX2 : Nat → FieldType := fun k => match k with
  | 0 => .array (.object "NeedleTelegraph$Message")
  | 1 => .object "NeedleTelegraph$Message"
  | 2 => .int
  | 3 => .int
  | _ => .int
abbrev wsX20 : List Cond := u_ws RX2 TX2 5
theorem nmX2 : ∀ a, a < 5 → ∀ b, b < 5 → a ≠ b → (TX2 a).2.1 ≠ (TX2 b).2.1 := by decide +kernel
theorem tyX2_ok : ∀ k, k < 5 → parseFieldDescriptor (TX2 k).2.2.1 = some (tyX2 k) := by decide +kernel
abbrev cX2_init : ByteArray := prog_4_method_1_code
def yX2_init : MethodName := ⟨RX2, "<init>", "()V"⟩
abbrev cX2_size : ByteArray := prog_4_method_2_code
def yX2_size : MethodName := ⟨RX2, "size", "()I"⟩
abbrev cX2_minute : ByteArray := prog_4_method_3_code
def yX2_minute : MethodName := ⟨RX2, "minute", "()I"⟩
abbrev cX2_has : ByteArray := prog_4_method_4_code
def yX2_has : MethodName := ⟨RX2, "has", "(I)Z"⟩
abbrev cX2_get : ByteArray := prog_4_method_5_code
def yX2_get : MethodName := ⟨RX2, "get", "(I)LNeedleTelegraph$Message;"⟩
abbrev cX2_clear : ByteArray := prog_4_method_6_code
def yX2_clear : MethodName := ⟨RX2, "clear", "()V"⟩
abbrev cX2_copy : ByteArray := prog_4_method_7_code
def yX2_copy : MethodName := ⟨RX2, "copy", "(LNeedleTelegraph$Moment;)V"⟩
abbrev cX2_add : ByteArray := prog_4_method_8_code
def yX2_add : MethodName := ⟨RX2, "add", "(III)Z"⟩
abbrev cX2_isIndoors : ByteArray := prog_4_method_9_code
def yX2_isIndoors : MethodName := ⟨RX2, "isIndoors", "(I)Z"⟩
abbrev cX2_goInOrOut : ByteArray := prog_4_method_10_code
def yX2_goInOrOut : MethodName := ⟨RX2, "goInOrOut", "(I)V"⟩
abbrev cX2_howManyIndoors : ByteArray := prog_4_method_11_code
def yX2_howManyIndoors : MethodName := ⟨RX2, "howManyIndoors", "()I"⟩
abbrev cX2_goThroughMinute : ByteArray := prog_4_method_12_code
def yX2_goThroughMinute : MethodName := ⟨RX2, "goThroughMinute", "(LNeedleTelegraph$Valley;)V"⟩
abbrev cX2_chairsHolding : ByteArray := prog_4_method_13_code
def yX2_chairsHolding : MethodName := ⟨RX2, "chairsHolding", "(LNeedleTelegraph$Message;LNeedleTelegraph$Valley;)I"⟩
abbrev cX2_areTogether : ByteArray := prog_4_method_14_code
def yX2_areTogether : MethodName := ⟨RX2, "areTogether", "(II)Z"⟩
abbrev cX2_howManyAt : ByteArray := prog_4_method_15_code
def yX2_howManyAt : MethodName := ⟨RX2, "howManyAt", "(I)I"⟩
abbrev cX2_howManyAre : ByteArray := prog_4_method_16_code
def yX2_howManyAre : MethodName := ⟨RX2, "howManyAre", "(I)I"⟩
abbrev cX2_sumOfRowsOut : ByteArray := prog_4_method_17_code
def yX2_sumOfRowsOut : MethodName := ⟨RX2, "sumOfRowsOut", "()I"⟩
def RX3 : String := "NeedleTelegraph$Pile"
def TX3 : u_T := fun k => match k with
  | 0 => ("NeedleTelegraph$Pile", "moments", "[LNeedleTelegraph$Moment;", true)
  | _ => ("NeedleTelegraph$Pile", "size", "I", false)
def tyX3 : Nat → FieldType := fun k => match k with
  | 0 => .array (.object "NeedleTelegraph$Moment")
  | _ => .int
abbrev wsX30 : List Cond := u_ws RX3 TX3 2
theorem nmX3 : ∀ a, a < 2 → ∀ b, b < 2 → a ≠ b → (TX3 a).2.1 ≠ (TX3 b).2.1 := by decide +kernel
theorem tyX3_ok : ∀ k, k < 2 → parseFieldDescriptor (TX3 k).2.2.1 = some (tyX3 k) := by decide +kernel
abbrev cX3_init : ByteArray := prog_5_method_1_code
def yX3_init : MethodName := ⟨RX3, "<init>", "(I)V"⟩
abbrev cX3_size : ByteArray := prog_5_method_2_code
def yX3_size : MethodName := ⟨RX3, "size", "()I"⟩
abbrev cX3_clear : ByteArray := prog_5_method_3_code
def yX3_clear : MethodName := ⟨RX3, "clear", "()V"⟩
abbrev cX3_put : ByteArray := prog_5_method_4_code
def yX3_put : MethodName := ⟨RX3, "put", "(LNeedleTelegraph$Moment;)V"⟩
abbrev cX3_takeInto : ByteArray := prog_5_method_5_code
def yX3_takeInto : MethodName := ⟨RX3, "takeInto", "(LNeedleTelegraph$Moment;)Z"⟩
abbrev cX3_dropOldest : ByteArray := prog_5_method_6_code
def yX3_dropOldest : MethodName := ⟨RX3, "dropOldest", "()V"⟩
def RX4 : String := "NeedleTelegraph$Reader"
def TX4 : u_T := fun k => match k with
  | 0 => ("NeedleTelegraph$Reader", "letters", "LNeedleTelegraph$Letters;", true)
  | 1 => ("NeedleTelegraph$Reader", "valley", "LNeedleTelegraph$Valley;", true)
  | 2 => ("NeedleTelegraph$Reader", "moment", "LNeedleTelegraph$Moment;", true)
  | _ => ("NeedleTelegraph$Reader", "place", "I", false)
def tyX4 : Nat → FieldType := fun k => match k with
  | 0 => .object "NeedleTelegraph$Letters"
  | 1 => .object "NeedleTelegraph$Valley"
  | 2 => .object "NeedleTelegraph$Moment"
  | _ => .int
abbrev wsX40 : List Cond := u_ws RX4 TX4 4
theorem nmX4 : ∀ a, a < 4 → ∀ b, b < 4 → a ≠ b → (TX4 a).2.1 ≠ (TX4 b).2.1 := by decide +kernel
theorem tyX4_ok : ∀ k, k < 4 → parseFieldDescriptor (TX4 k).2.2.1 = some (tyX4 k) := by decide +kernel
abbrev cX4_init : ByteArray := prog_6_method_1_code
def yX4_init : MethodName := ⟨RX4, "<init>", "()V"⟩
abbrev cX4_read : ByteArray := prog_6_method_2_code
def yX4_read : MethodName := ⟨RX4, "read", "()I"⟩
abbrev cX4_readItem : ByteArray := prog_6_method_3_code
def yX4_readItem : MethodName := ⟨RX4, "readItem", "()Z"⟩
abbrev cX4_readChair : ByteArray := prog_6_method_4_code
def yX4_readChair : MethodName := ⟨RX4, "readChair", "()Z"⟩
abbrev cX4_readMessage : ByteArray := prog_6_method_5_code
def yX4_readMessage : MethodName := ⟨RX4, "readMessage", "()Z"⟩
abbrev cX4_readIndoors : ByteArray := prog_6_method_6_code
def yX4_readIndoors : MethodName := ⟨RX4, "readIndoors", "()Z"⟩
abbrev cX4_takes : ByteArray := prog_6_method_7_code
def yX4_takes : MethodName := ⟨RX4, "takes", "(I)Z"⟩
abbrev cX4_number : ByteArray := prog_6_method_8_code
def yX4_number : MethodName := ⟨RX4, "number", "()I"⟩
abbrev cX4_figure : ByteArray := prog_6_method_9_code
def yX4_figure : MethodName := ⟨RX4, "figure", "()I"⟩
abbrev cX4_row : ByteArray := prog_6_method_10_code
def yX4_row : MethodName := ⟨RX4, "row", "()I"⟩
def RX5 : String := "NeedleTelegraph$Rows"
def TX5 : u_T := fun k => match k with
  | _ => ("", "", "", false)
def tyX5 : Nat → FieldType := fun k => match k with
  | _ => .int
abbrev wsX50 : List Cond := u_ws RX5 TX5 0
theorem nmX5 : ∀ a, a < 0 → ∀ b, b < 0 → a ≠ b → (TX5 a).2.1 ≠ (TX5 b).2.1 := by decide +kernel
theorem tyX5_ok : ∀ k, k < 0 → parseFieldDescriptor (TX5 k).2.2.1 = some (tyX5 k) := by decide +kernel
abbrev cX5_length : ByteArray := prog_7_method_2_code
def yX5_length : MethodName := ⟨RX5, "length", "(I)I"⟩
abbrev cX5_stitch : ByteArray := prog_7_method_3_code
def yX5_stitch : MethodName := ⟨RX5, "stitch", "(II)I"⟩
abbrev cX5_with : ByteArray := prog_7_method_4_code
def yX5_with : MethodName := ⟨RX5, "with", "(II)I"⟩
abbrev cX5_isRow : ByteArray := prog_7_method_5_code
def yX5_isRow : MethodName := ⟨RX5, "isRow", "(I)Z"⟩
abbrev cX5_isRowOrEmpty : ByteArray := prog_7_method_6_code
def yX5_isRowOrEmpty : MethodName := ⟨RX5, "isRowOrEmpty", "(I)Z"⟩
abbrev cX5_withoutFirst : ByteArray := prog_7_method_7_code
def yX5_withoutFirst : MethodName := ⟨RX5, "withoutFirst", "(I)I"⟩
abbrev cX5_knitted : ByteArray := prog_7_method_8_code
def yX5_knitted : MethodName := ⟨RX5, "knitted", "(II)I"⟩
abbrev cX5_withoutEachThird : ByteArray := prog_7_method_9_code
def yX5_withoutEachThird : MethodName := ⟨RX5, "withoutEachThird", "(I)I"⟩
abbrev cX5_misheard : ByteArray := prog_7_method_10_code
def yX5_misheard : MethodName := ⟨RX5, "misheard", "(I)I"⟩
def RX6 : String := "NeedleTelegraph$Seen"
def TX6 : u_T := fun k => match k with
  | 0 => ("NeedleTelegraph$Seen", "chairs", "[I", true)
  | 1 => ("NeedleTelegraph$Seen", "rows", "[I", true)
  | 2 => ("NeedleTelegraph$Seen", "comings", "[I", true)
  | _ => ("NeedleTelegraph$Seen", "size", "I", false)
def tyX6 : Nat → FieldType := fun k => match k with
  | 0 => .array .int
  | 1 => .array .int
  | 2 => .array .int
  | _ => .int
abbrev wsX60 : List Cond := u_ws RX6 TX6 4
theorem nmX6 : ∀ a, a < 4 → ∀ b, b < 4 → a ≠ b → (TX6 a).2.1 ≠ (TX6 b).2.1 := by decide +kernel
theorem tyX6_ok : ∀ k, k < 4 → parseFieldDescriptor (TX6 k).2.2.1 = some (tyX6 k) := by decide +kernel
abbrev cX6_init : ByteArray := prog_8_method_1_code
def yX6_init : MethodName := ⟨RX6, "<init>", "()V"⟩
abbrev cX6_size : ByteArray := prog_8_method_2_code
def yX6_size : MethodName := ⟨RX6, "size", "()I"⟩
abbrev cX6_clear : ByteArray := prog_8_method_3_code
def yX6_clear : MethodName := ⟨RX6, "clear", "()V"⟩
abbrev cX6_add : ByteArray := prog_8_method_4_code
def yX6_add : MethodName := ⟨RX6, "add", "(III)Z"⟩
abbrev cX6_isSo : ByteArray := prog_8_method_5_code
def yX6_isSo : MethodName := ⟨RX6, "isSo", "(LNeedleTelegraph$Valley;II)Z"⟩
def RX7 : String := "NeedleTelegraph$Valley"
def TX7 : u_T := fun k => match k with
  | 0 => ("NeedleTelegraph$Valley", "kinds", "[I", true)
  | 1 => ("NeedleTelegraph$Valley", "paces", "[I", true)
  | 2 => ("NeedleTelegraph$Valley", "nexts", "[I", true)
  | _ => ("NeedleTelegraph$Valley", "size", "I", false)
def tyX7 : Nat → FieldType := fun k => match k with
  | 0 => .array .int
  | 1 => .array .int
  | 2 => .array .int
  | _ => .int
abbrev wsX70 : List Cond := u_ws RX7 TX7 4
theorem nmX7 : ∀ a, a < 4 → ∀ b, b < 4 → a ≠ b → (TX7 a).2.1 ≠ (TX7 b).2.1 := by decide +kernel
theorem tyX7_ok : ∀ k, k < 4 → parseFieldDescriptor (TX7 k).2.2.1 = some (tyX7 k) := by decide +kernel
abbrev cX7_init : ByteArray := prog_9_method_1_code
def yX7_init : MethodName := ⟨RX7, "<init>", "()V"⟩
abbrev cX7_size : ByteArray := prog_9_method_2_code
def yX7_size : MethodName := ⟨RX7, "size", "()I"⟩
abbrev cX7_has : ByteArray := prog_9_method_3_code
def yX7_has : MethodName := ⟨RX7, "has", "(I)Z"⟩
abbrev cX7_kindOf : ByteArray := prog_9_method_4_code
def yX7_kindOf : MethodName := ⟨RX7, "kindOf", "(I)I"⟩
abbrev cX7_paceOf : ByteArray := prog_9_method_5_code
def yX7_paceOf : MethodName := ⟨RX7, "paceOf", "(I)I"⟩
abbrev cX7_nextOf : ByteArray := prog_9_method_6_code
def yX7_nextOf : MethodName := ⟨RX7, "nextOf", "(I)I"⟩
abbrev cX7_isAtSea : ByteArray := prog_9_method_7_code
def yX7_isAtSea : MethodName := ⟨RX7, "isAtSea", "(I)Z"⟩
abbrev cX7_clear : ByteArray := prog_9_method_8_code
def yX7_clear : MethodName := ⟨RX7, "clear", "()V"⟩
abbrev cX7_add : ByteArray := prog_9_method_9_code
def yX7_add : MethodName := ⟨RX7, "add", "(III)Z"⟩
abbrev cX7_copy : ByteArray := prog_9_method_10_code
def yX7_copy : MethodName := ⟨RX7, "copy", "(LNeedleTelegraph$Valley;)V"⟩
abbrev cX7_rowAtSea : ByteArray := prog_9_method_11_code
def yX7_rowAtSea : MethodName := ⟨RX7, "rowAtSea", "(II)I"⟩
abbrev cX7_rowAtSeaWere : ByteArray := prog_9_method_12_code
def yX7_rowAtSeaWere : MethodName := ⟨RX7, "rowAtSeaWere", "(IIII)I"⟩
abbrev cX7_wayToSea : ByteArray := prog_9_method_13_code
def yX7_wayToSea : MethodName := ⟨RX7, "wayToSea", "(I)I"⟩
abbrev cX7_minutesToSea : ByteArray := prog_9_method_14_code
def yX7_minutesToSea : MethodName := ⟨RX7, "minutesToSea", "(I)I"⟩
abbrev cX7_chairsToSea : ByteArray := prog_9_method_15_code
def yX7_chairsToSea : MethodName := ⟨RX7, "chairsToSea", "(I)I"⟩
abbrev cX7_howManyKnitBy : ByteArray := prog_9_method_16_code
def yX7_howManyKnitBy : MethodName := ⟨RX7, "howManyKnitBy", "(I)I"⟩
def RX8 : String := "NeedleTelegraph"
def TX8 : u_T := fun k => match k with
  | 0 => ("NeedleTelegraph", "reader", "LNeedleTelegraph$Reader;", true)
  | 1 => ("NeedleTelegraph", "letters", "LNeedleTelegraph$Letters;", true)
  | 2 => ("NeedleTelegraph", "valley", "LNeedleTelegraph$Valley;", true)
  | 3 => ("NeedleTelegraph", "now", "LNeedleTelegraph$Moment;", true)
  | 4 => ("NeedleTelegraph", "supposed", "LNeedleTelegraph$Moment;", true)
  | 5 => ("NeedleTelegraph", "undone", "LNeedleTelegraph$Pile;", true)
  | 6 => ("NeedleTelegraph", "kept", "LNeedleTelegraph$Pile;", true)
  | _ => ("NeedleTelegraph", "seen", "LNeedleTelegraph$Seen;", true)
def tyX8 : Nat → FieldType := fun k => match k with
  | 0 => .object "NeedleTelegraph$Reader"
  | 1 => .object "NeedleTelegraph$Letters"
  | 2 => .object "NeedleTelegraph$Valley"
  | 3 => .object "NeedleTelegraph$Moment"
  | 4 => .object "NeedleTelegraph$Moment"
  | 5 => .object "NeedleTelegraph$Pile"
  | 6 => .object "NeedleTelegraph$Pile"
  | _ => .object "NeedleTelegraph$Seen"
abbrev wsX80 : List Cond := u_ws RX8 TX8 8
theorem nmX8 : ∀ a, a < 8 → ∀ b, b < 8 → a ≠ b → (TX8 a).2.1 ≠ (TX8 b).2.1 := by decide +kernel
theorem tyX8_ok : ∀ k, k < 8 → parseFieldDescriptor (TX8 k).2.2.1 = some (tyX8 k) := by decide +kernel
abbrev cX8_init : ByteArray := prog_1_method_1_code
def yX8_init : MethodName := ⟨RX8, "<init>", "()V"⟩
abbrev cX8_write : ByteArray := prog_1_method_2_code
def yX8_write : MethodName := ⟨RX8, "write", "(I)I"⟩
abbrev cX8_wipe : ByteArray := prog_1_method_3_code
def yX8_wipe : MethodName := ⟨RX8, "wipe", "()I"⟩
abbrev cX8_fault : ByteArray := prog_1_method_4_code
def yX8_fault : MethodName := ⟨RX8, "fault", "()I"⟩
abbrev cX8_lay : ByteArray := prog_1_method_5_code
def yX8_lay : MethodName := ⟨RX8, "lay", "()I"⟩
abbrev cX8_chair : ByteArray := prog_1_method_6_code
def yX8_chair : MethodName := ⟨RX8, "chair", "(II)I"⟩
abbrev cX8_message : ByteArray := prog_1_method_7_code
def yX8_message : MethodName := ⟨RX8, "message", "(II)I"⟩
abbrev cX8_knit : ByteArray := prog_1_method_8_code
def yX8_knit : MethodName := ⟨RX8, "knit", "(II)I"⟩
abbrev cX8_pass : ByteArray := prog_1_method_9_code
def yX8_pass : MethodName := ⟨RX8, "pass", "(I)I"⟩
abbrev cX8_rain : ByteArray := prog_1_method_10_code
def yX8_rain : MethodName := ⟨RX8, "rain", "(I)I"⟩
abbrev cX8_send : ByteArray := prog_1_method_11_code
def yX8_send : MethodName := ⟨RX8, "send", "(II)I"⟩
abbrev cX8_alter : ByteArray := prog_1_method_12_code
def yX8_alter : MethodName := ⟨RX8, "alter", "(II)I"⟩
abbrev cX8_undo : ByteArray := prog_1_method_13_code
def yX8_undo : MethodName := ⟨RX8, "undo", "()I"⟩
abbrev cX8_comes : ByteArray := prog_1_method_14_code
def yX8_comes : MethodName := ⟨RX8, "comes", "(III)I"⟩
abbrev cX8_out : ByteArray := prog_1_method_15_code
def yX8_out : MethodName := ⟨RX8, "out", "(II)I"⟩
abbrev cX8_code : ByteArray := prog_1_method_16_code
def yX8_code : MethodName := ⟨RX8, "code", "(II)I"⟩
abbrev cX8_could : ByteArray := prog_1_method_17_code
def yX8_could : MethodName := ⟨RX8, "could", "(II)I"⟩
abbrev cX8_bring : ByteArray := prog_1_method_18_code
def yX8_bring : MethodName := ⟨RX8, "bring", "(I)I"⟩
abbrev cX8_meet : ByteArray := prog_1_method_19_code
def yX8_meet : MethodName := ⟨RX8, "meet", "(II)I"⟩
abbrev cX8_hangs : ByteArray := prog_1_method_20_code
def yX8_hangs : MethodName := ⟨RX8, "hangs", "(I)I"⟩
abbrev cX8_see : ByteArray := prog_1_method_21_code
def yX8_see : MethodName := ⟨RX8, "see", "(III)I"⟩
abbrev cX8_forget : ByteArray := prog_1_method_22_code
def yX8_forget : MethodName := ⟨RX8, "forget", "()I"⟩
abbrev cX8_kinds : ByteArray := prog_1_method_23_code
def yX8_kinds : MethodName := ⟨RX8, "kinds", "(I)I"⟩
abbrev cX8_lies : ByteArray := prog_1_method_24_code
def yX8_lies : MethodName := ⟨RX8, "lies", "()I"⟩
abbrev cX8_slips : ByteArray := prog_1_method_25_code
def yX8_slips : MethodName := ⟨RX8, "slips", "(IIII)I"⟩
abbrev cX8_evening : ByteArray := prog_1_method_26_code
def yX8_evening : MethodName := ⟨RX8, "evening", "(III)I"⟩
abbrev cX8_keep : ByteArray := prog_1_method_27_code
def yX8_keep : MethodName := ⟨RX8, "keep", "()I"⟩
abbrev cX8_back : ByteArray := prog_1_method_28_code
def yX8_back : MethodName := ⟨RX8, "back", "()I"⟩
abbrev cX8_count : ByteArray := prog_1_method_29_code
def yX8_count : MethodName := ⟨RX8, "count", "(I)I"⟩
abbrev cX8_isBetween : ByteArray := prog_1_method_30_code
def yX8_isBetween : MethodName := ⟨RX8, "isBetween", "(III)Z"⟩
abbrev cX8_isIn : ByteArray := prog_1_method_31_code
def yX8_isIn : MethodName := ⟨RX8, "isIn", "(II)Z"⟩
abbrev cX8_at : ByteArray := prog_1_method_32_code
def yX8_at : MethodName := ⟨RX8, "at", "([II)I"⟩
abbrev cX8_set : ByteArray := prog_1_method_33_code
def yX8_set : MethodName := ⟨RX8, "set", "([III)V"⟩
abbrev cX8_layWhatWasRead : ByteArray := prog_1_method_34_code
def yX8_layWhatWasRead : MethodName := ⟨RX8, "layWhatWasRead", "()V"⟩
abbrev cX8_kindsThatDo : ByteArray := prog_1_method_35_code
def yX8_kindsThatDo : MethodName := ⟨RX8, "kindsThatDo", "(I)I"⟩
abbrev cX8_tenthsThatCome : ByteArray := prog_1_method_36_code
def yX8_tenthsThatCome : MethodName := ⟨RX8, "tenthsThatCome", "(LNeedleTelegraph$Valley;IIIII)J"⟩
abbrev cX8_greatestDivisor : ByteArray := prog_1_method_37_code
def yX8_greatestDivisor : MethodName := ⟨RX8, "greatestDivisor", "(JJ)J"⟩
abbrev cX8_draw : ByteArray := prog_1_method_38_code
def yX8_draw : MethodName := ⟨RX8, "draw", "(II)I"⟩
abbrev cX8_happen : ByteArray := prog_1_method_39_code
def yX8_happen : MethodName := ⟨RX8, "happen", "(I)V"⟩
def RX9 : String := "NeedleTelegraphModel"
def TX9 : u_T := fun k => match k with
  | 0 => ("NeedleTelegraphModel", "letterMany", "I", false)
  | 1 => ("NeedleTelegraphModel", "text", "[I", true)
  | 2 => ("NeedleTelegraphModel", "readAt", "I", false)
  | 3 => ("NeedleTelegraphModel", "readChairs", "I", false)
  | 4 => ("NeedleTelegraphModel", "readMessages", "I", false)
  | 5 => ("NeedleTelegraphModel", "readIndoors", "I", false)
  | 6 => ("NeedleTelegraphModel", "readKinds", "[I", true)
  | 7 => ("NeedleTelegraphModel", "readPaces", "[I", true)
  | 8 => ("NeedleTelegraphModel", "readOns", "[I", true)
  | 9 => ("NeedleTelegraphModel", "readWhere", "[I", true)
  | 10 => ("NeedleTelegraphModel", "readWhen", "[I", true)
  | 11 => ("NeedleTelegraphModel", "readRows", "[I", true)
  | 12 => ("NeedleTelegraphModel", "n", "I", false)
  | 13 => ("NeedleTelegraphModel", "kindOf", "[I", true)
  | 14 => ("NeedleTelegraphModel", "paces", "[I", true)
  | 15 => ("NeedleTelegraphModel", "ons", "[I", true)
  | 16 => ("NeedleTelegraphModel", "now", "[I", true)
  | 17 => ("NeedleTelegraphModel", "tried", "[I", true)
  | 18 => ("NeedleTelegraphModel", "undoMany", "I", false)
  | 19 => ("NeedleTelegraphModel", "undoAt", "I", false)
  | 20 => ("NeedleTelegraphModel", "undos", "[I", true)
  | 21 => ("NeedleTelegraphModel", "seenMany", "I", false)
  | 22 => ("NeedleTelegraphModel", "seen", "[I", true)
  | 23 => ("NeedleTelegraphModel", "keptMany", "I", false)
  | _ => ("NeedleTelegraphModel", "kept", "[I", true)
def tyX9 : Nat → FieldType := fun k => match k with
  | 0 => .int
  | 1 => .array .int
  | 2 => .int
  | 3 => .int
  | 4 => .int
  | 5 => .int
  | 6 => .array .int
  | 7 => .array .int
  | 8 => .array .int
  | 9 => .array .int
  | 10 => .array .int
  | 11 => .array .int
  | 12 => .int
  | 13 => .array .int
  | 14 => .array .int
  | 15 => .array .int
  | 16 => .array .int
  | 17 => .array .int
  | 18 => .int
  | 19 => .int
  | 20 => .array .int
  | 21 => .int
  | 22 => .array .int
  | 23 => .int
  | _ => .array .int
abbrev wsX90 : List Cond := u_ws RX9 TX9 25
theorem nmX9 : ∀ a, a < 25 → ∀ b, b < 25 → a ≠ b → (TX9 a).2.1 ≠ (TX9 b).2.1 := by decide +kernel
theorem tyX9_ok : ∀ k, k < 25 → parseFieldDescriptor (TX9 k).2.2.1 = some (tyX9 k) := by decide +kernel
abbrev cX9_init : ByteArray := prog_11_method_1_code
def yX9_init : MethodName := ⟨RX9, "<init>", "()V"⟩
abbrev cX9_in : ByteArray := prog_11_method_2_code
def yX9_in : MethodName := ⟨RX9, "in", "(III)Z"⟩
abbrev cX9_has : ByteArray := prog_11_method_3_code
def yX9_has : MethodName := ⟨RX9, "has", "(II)Z"⟩
abbrev cX9_bits : ByteArray := prog_11_method_4_code
def yX9_bits : MethodName := ⟨RX9, "bits", "(I)I"⟩
abbrev cX9_lengthOf : ByteArray := prog_11_method_5_code
def yX9_lengthOf : MethodName := ⟨RX9, "lengthOf", "(I)I"⟩
abbrev cX9_isRow : ByteArray := prog_11_method_6_code
def yX9_isRow : MethodName := ⟨RX9, "isRow", "(I)Z"⟩
abbrev cX9_power : ByteArray := prog_11_method_7_code
def yX9_power : MethodName := ⟨RX9, "power", "(I)I"⟩
abbrev cX9_knitBy : ByteArray := prog_11_method_8_code
def yX9_knitBy : MethodName := ⟨RX9, "knitBy", "(II)I"⟩
abbrev cX9_anew : ByteArray := prog_11_method_9_code
def yX9_anew : MethodName := ⟨RX9, "anew", "()V"⟩
abbrev cX9_sits : ByteArray := prog_11_method_10_code
def yX9_sits : MethodName := ⟨RX9, "sits", "(III)V"⟩
abbrev cX9_begins : ByteArray := prog_11_method_11_code
def yX9_begins : MethodName := ⟨RX9, "begins", "(III)V"⟩
abbrev cX9_write : ByteArray := prog_11_method_12_code
def yX9_write : MethodName := ⟨RX9, "write", "(I)I"⟩
abbrev cX9_wipe : ByteArray := prog_11_method_13_code
def yX9_wipe : MethodName := ⟨RX9, "wipe", "()I"⟩
abbrev cX9_here : ByteArray := prog_11_method_14_code
def yX9_here : MethodName := ⟨RX9, "here", "()I"⟩
abbrev cX9_number : ByteArray := prog_11_method_15_code
def yX9_number : MethodName := ⟨RX9, "number", "(I)I"⟩
abbrev cX9_readsChair : ByteArray := prog_11_method_16_code
def yX9_readsChair : MethodName := ⟨RX9, "readsChair", "()Z"⟩
abbrev cX9_stitches : ByteArray := prog_11_method_17_code
def yX9_stitches : MethodName := ⟨RX9, "stitches", "()I"⟩
abbrev cX9_readsMessage : ByteArray := prog_11_method_18_code
def yX9_readsMessage : MethodName := ⟨RX9, "readsMessage", "()Z"⟩
abbrev cX9_readsItem : ByteArray := prog_11_method_19_code
def yX9_readsItem : MethodName := ⟨RX9, "readsItem", "()Z"⟩
abbrev cX9_faultOf : ByteArray := prog_11_method_20_code
def yX9_faultOf : MethodName := ⟨RX9, "faultOf", "()I"⟩
abbrev cX9_fault : ByteArray := prog_11_method_21_code
def yX9_fault : MethodName := ⟨RX9, "fault", "()I"⟩
abbrev cX9_laid : ByteArray := prog_11_method_22_code
def yX9_laid : MethodName := ⟨RX9, "laid", "()V"⟩
abbrev cX9_adds : ByteArray := prog_11_method_23_code
def yX9_adds : MethodName := ⟨RX9, "adds", "([IIII)V"⟩
abbrev cX9_lay : ByteArray := prog_11_method_24_code
def yX9_lay : MethodName := ⟨RX9, "lay", "()I"⟩
abbrev cX9_isChair : ByteArray := prog_11_method_25_code
def yX9_isChair : MethodName := ⟨RX9, "isChair", "(I)Z"⟩
abbrev cX9_isMessage : ByteArray := prog_11_method_26_code
def yX9_isMessage : MethodName := ⟨RX9, "isMessage", "(I)Z"⟩
abbrev cX9_is : ByteArray := prog_11_method_27_code
def yX9_is : MethodName := ⟨RX9, "is", "([III)I"⟩
abbrev cX9_atChair : ByteArray := prog_11_method_28_code
def yX9_atChair : MethodName := ⟨RX9, "atChair", "(I)I"⟩
abbrev cX9_chair : ByteArray := prog_11_method_29_code
def yX9_chair : MethodName := ⟨RX9, "chair", "(II)I"⟩
abbrev cX9_message : ByteArray := prog_11_method_30_code
def yX9_message : MethodName := ⟨RX9, "message", "(II)I"⟩
abbrev cX9_knit : ByteArray := prog_11_method_31_code
def yX9_knit : MethodName := ⟨RX9, "knit", "(II)I"⟩
abbrev cX9_goesOn : ByteArray := prog_11_method_32_code
def yX9_goesOn : MethodName := ⟨RX9, "goesOn", "([II)V"⟩
abbrev cX9_passes : ByteArray := prog_11_method_33_code
def yX9_passes : MethodName := ⟨RX9, "passes", "([I)V"⟩
abbrev cX9_outOf : ByteArray := prog_11_method_34_code
def yX9_outOf : MethodName := ⟨RX9, "outOf", "([I)I"⟩
abbrev cX9_remember : ByteArray := prog_11_method_35_code
def yX9_remember : MethodName := ⟨RX9, "remember", "()V"⟩
abbrev cX9_pass : ByteArray := prog_11_method_36_code
def yX9_pass : MethodName := ⟨RX9, "pass", "(I)I"⟩
abbrev cX9_rain : ByteArray := prog_11_method_37_code
def yX9_rain : MethodName := ⟨RX9, "rain", "(I)I"⟩
abbrev cX9_send : ByteArray := prog_11_method_38_code
def yX9_send : MethodName := ⟨RX9, "send", "(II)I"⟩
abbrev cX9_alter : ByteArray := prog_11_method_39_code
def yX9_alter : MethodName := ⟨RX9, "alter", "(II)I"⟩
abbrev cX9_undo : ByteArray := prog_11_method_40_code
def yX9_undo : MethodName := ⟨RX9, "undo", "()I"⟩
abbrev cX9_comesBy : ByteArray := prog_11_method_41_code
def yX9_comesBy : MethodName := ⟨RX9, "comesBy", "(IIII)I"⟩
abbrev cX9_comesOf : ByteArray := prog_11_method_42_code
def yX9_comesOf : MethodName := ⟨RX9, "comesOf", "(II)I"⟩
abbrev cX9_comes : ByteArray := prog_11_method_43_code
def yX9_comes : MethodName := ⟨RX9, "comes", "(III)I"⟩
abbrev cX9_copyNow : ByteArray := prog_11_method_44_code
def yX9_copyNow : MethodName := ⟨RX9, "copyNow", "()V"⟩
abbrev cX9_out : ByteArray := prog_11_method_45_code
def yX9_out : MethodName := ⟨RX9, "out", "(II)I"⟩
abbrev cX9_code : ByteArray := prog_11_method_46_code
def yX9_code : MethodName := ⟨RX9, "code", "(II)I"⟩
abbrev cX9_could : ByteArray := prog_11_method_47_code
def yX9_could : MethodName := ⟨RX9, "could", "(II)I"⟩
abbrev cX9_allOut : ByteArray := prog_11_method_48_code
def yX9_allOut : MethodName := ⟨RX9, "allOut", "(I)Z"⟩
abbrev cX9_bring : ByteArray := prog_11_method_49_code
def yX9_bring : MethodName := ⟨RX9, "bring", "(I)I"⟩
abbrev cX9_isMet : ByteArray := prog_11_method_50_code
def yX9_isMet : MethodName := ⟨RX9, "isMet", "([III)Z"⟩
abbrev cX9_meet : ByteArray := prog_11_method_51_code
def yX9_meet : MethodName := ⟨RX9, "meet", "(II)I"⟩
abbrev cX9_hanging : ByteArray := prog_11_method_52_code
def yX9_hanging : MethodName := ⟨RX9, "hanging", "(I)I"⟩
abbrev cX9_hangs : ByteArray := prog_11_method_53_code
def yX9_hangs : MethodName := ⟨RX9, "hangs", "(I)I"⟩
abbrev cX9_see : ByteArray := prog_11_method_54_code
def yX9_see : MethodName := ⟨RX9, "see", "(III)I"⟩
abbrev cX9_forget : ByteArray := prog_11_method_55_code
def yX9_forget : MethodName := ⟨RX9, "forget", "()I"⟩
abbrev cX9_isSo : ByteArray := prog_11_method_56_code
def yX9_isSo : MethodName := ⟨RX9, "isSo", "(II)Z"⟩
abbrev cX9_kinds : ByteArray := prog_11_method_57_code
def yX9_kinds : MethodName := ⟨RX9, "kinds", "(I)I"⟩
abbrev cX9_lies : ByteArray := prog_11_method_58_code
def yX9_lies : MethodName := ⟨RX9, "lies", "()I"⟩
abbrev cX9_withoutFirst : ByteArray := prog_11_method_59_code
def yX9_withoutFirst : MethodName := ⟨RX9, "withoutFirst", "(I)I"⟩
abbrev cX9_slipped : ByteArray := prog_11_method_60_code
def yX9_slipped : MethodName := ⟨RX9, "slipped", "(III)I"⟩
abbrev cX9_common : ByteArray := prog_11_method_61_code
def yX9_common : MethodName := ⟨RX9, "common", "(II)I"⟩
abbrev cX9_slips : ByteArray := prog_11_method_62_code
def yX9_slips : MethodName := ⟨RX9, "slips", "(IIII)I"⟩
abbrev cX9_evening : ByteArray := prog_11_method_63_code
def yX9_evening : MethodName := ⟨RX9, "evening", "(III)I"⟩
abbrev cX9_keep : ByteArray := prog_11_method_64_code
def yX9_keep : MethodName := ⟨RX9, "keep", "()I"⟩
abbrev cX9_back : ByteArray := prog_11_method_65_code
def yX9_back : MethodName := ⟨RX9, "back", "()I"⟩
abbrev cX9_atChairs : ByteArray := prog_11_method_66_code
def yX9_atChairs : MethodName := ⟨RX9, "atChairs", "()I"⟩
abbrev cX9_count : ByteArray := prog_11_method_67_code
def yX9_count : MethodName := ⟨RX9, "count", "(I)I"⟩
def RJ6 : String := "java/lang/Integer"
def TJ6 : u_T := fun k => match k with
  | _ => ("", "", "", false)
def tyJ6 : Nat → FieldType := fun k => match k with
  | _ => .int
abbrev wsJ60 : List Cond := u_ws RJ6 TJ6 0
theorem nmJ6 : ∀ a, a < 0 → ∀ b, b < 0 → a ≠ b → (TJ6 a).2.1 ≠ (TJ6 b).2.1 := by decide +kernel
theorem tyJ6_ok : ∀ k, k < 0 → parseFieldDescriptor (TJ6 k).2.2.1 = some (tyJ6 k) := by decide +kernel
abbrev cJ6_bitCount_0f7a4 : ByteArray := prog_12_method_49_code
def yJ6_bitCount_0f7a4 : MethodName := ⟨RJ6, "bitCount", "(I)I"⟩
def RJ9 : String := "java/lang/Math"
def TJ9 : u_T := fun k => match k with
  | _ => ("", "", "", false)
def tyJ9 : Nat → FieldType := fun k => match k with
  | _ => .int
abbrev wsJ90 : List Cond := u_ws RJ9 TJ9 0
theorem nmJ9 : ∀ a, a < 0 → ∀ b, b < 0 → a ≠ b → (TJ9 a).2.1 ≠ (TJ9 b).2.1 := by decide +kernel
theorem tyJ9_ok : ∀ k, k < 0 → parseFieldDescriptor (TJ9 k).2.2.1 = some (tyJ9 k) := by decide +kernel
abbrev cJ9_max_7cf53 : ByteArray := prog_13_method_65_code
def yJ9_max_7cf53 : MethodName := ⟨RJ9, "max", "(II)I"⟩
def RJ0 : String := "java/lang/String"
def TJ0 : u_T := fun k => match k with
  | _ => ("", "", "", false)
def tyJ0 : Nat → FieldType := fun k => match k with
  | _ => .int
abbrev wsJ00 : List Cond := u_ws RJ0 TJ0 0
theorem nmJ0 : ∀ a, a < 0 → ∀ b, b < 0 → a ≠ b → (TJ0 a).2.1 ≠ (TJ0 b).2.1 := by decide +kernel
theorem tyJ0_ok : ∀ k, k < 0 → parseFieldDescriptor (TJ0 k).2.2.1 = some (tyJ0 k) := by decide +kernel
abbrev cJ0_length_8abf5 : ByteArray := prog_14_method_54_code
def yJ0_length_8abf5 : MethodName := ⟨RJ0, "length", "()I"⟩
abbrev cJ0_charAt_5068e : ByteArray := prog_14_method_56_code
def yJ0_charAt_5068e : MethodName := ⟨RJ0, "charAt", "(I)C"⟩
abbrev cJ0_coder_7d493 : ByteArray := prog_14_method_152_code
def yJ0_coder_7d493 : MethodName := ⟨RJ0, "coder", "()B"⟩
abbrev cJ0_isLatin1_aae02 : ByteArray := prog_14_method_154_code
def yJ0_isLatin1_aae02 : MethodName := ⟨RJ0, "isLatin1", "()Z"⟩
abbrev cJ0_checkIndex_df160 : ByteArray := prog_14_method_155_code
def yJ0_checkIndex_df160 : MethodName := ⟨RJ0, "checkIndex", "(II)V"⟩
def RJ1 : String := "java/lang/StringLatin1"
def TJ1 : u_T := fun k => match k with
  | _ => ("", "", "", false)
def tyJ1 : Nat → FieldType := fun k => match k with
  | _ => .int
abbrev wsJ10 : List Cond := u_ws RJ1 TJ1 0
theorem nmJ1 : ∀ a, a < 0 → ∀ b, b < 0 → a ≠ b → (TJ1 a).2.1 ≠ (TJ1 b).2.1 := by decide +kernel
theorem tyJ1_ok : ∀ k, k < 0 → parseFieldDescriptor (TJ1 k).2.2.1 = some (tyJ1 k) := by decide +kernel
abbrev cJ1_charAt_3b067 : ByteArray := prog_15_method_2_code
def yJ1_charAt_3b067 : MethodName := ⟨RJ1, "charAt", "([BI)C"⟩
def RJ2 : String := "java/lang/StringUTF16"
def TJ2 : u_T := fun k => match k with
  | _ => ("", "", "", false)
def tyJ2 : Nat → FieldType := fun k => match k with
  | _ => .int
abbrev wsJ20 : List Cond := u_ws RJ2 TJ2 0
theorem nmJ2 : ∀ a, a < 0 → ∀ b, b < 0 → a ≠ b → (TJ2 a).2.1 ≠ (TJ2 b).2.1 := by decide +kernel
theorem tyJ2_ok : ∀ k, k < 0 → parseFieldDescriptor (TJ2 k).2.2.1 = some (tyJ2 k) := by decide +kernel
abbrev cJ2_getChar_3b067 : ByteArray := prog_16_method_5_code
def yJ2_getChar_3b067 : MethodName := ⟨RJ2, "getChar", "([BI)C"⟩
abbrev cJ2_length_9d52b : ByteArray := prog_16_method_6_code
def yJ2_length_9d52b : MethodName := ⟨RJ2, "length", "([B)I"⟩
abbrev cJ2_charAt_3b067 : ByteArray := prog_16_method_83_code
def yJ2_charAt_3b067 : MethodName := ⟨RJ2, "charAt", "([BI)C"⟩
abbrev cJ2_checkIndex_2214a : ByteArray := prog_16_method_91_code
def yJ2_checkIndex_2214a : MethodName := ⟨RJ2, "checkIndex", "(I[B)V"⟩
def RJ3 : String := "jdk/internal/util/Preconditions"
def TJ3 : u_T := fun k => match k with
  | _ => ("", "", "", false)
def tyJ3 : Nat → FieldType := fun k => match k with
  | _ => .int
abbrev wsJ30 : List Cond := u_ws RJ3 TJ3 0
theorem nmJ3 : ∀ a, a < 0 → ∀ b, b < 0 → a ≠ b → (TJ3 a).2.1 ≠ (TJ3 b).2.1 := by decide +kernel
theorem tyJ3_ok : ∀ k, k < 0 → parseFieldDescriptor (TJ3 k).2.2.1 = some (tyJ3 k) := by decide +kernel
abbrev cJ3_checkIndex_8e157 : ByteArray := prog_17_method_11_code
def yJ3_checkIndex_8e157 : MethodName := ⟨RJ3, "checkIndex", "(IILjava/util/function/BiFunction;)I"⟩
def RL : String := "NeedleTelegraphLaw"
abbrev cL_law : ByteArray := code
def yL_law : MethodName := ⟨RL, "law", "([I)Z"⟩
abbrev vwCl : List vw_C := [(RX0, TX0, 2), (RX1, TX1, 6), (RX2, TX2, 5), (RX3, TX3, 2), (RX4, TX4, 4), (RX6, TX6, 4), (RX7, TX7, 4), (RX8, TX8, 8), (RX9, TX9, 25)]
