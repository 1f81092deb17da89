section
-- ===== PART A: goes FIRST, ahead of the names: the tables' words, and 'selects' of the private methods out of them =====
/-- a private method of a class that the tables say can be made, by its rows of tables_1 -/
def lw_okq (q : MethodName × Nat) : Prop := (q.1.cls ≠ "java/lang/invoke/MethodHandle" ∧ q.1.cls ≠ "java/lang/invoke/VarHandle") ∧ Cond.instantiable q.1.cls q.2 ∈ tables_1 ∧ Cond.privateMethod q.1 ∈ tables_1 ∧ Cond.instanceMethod q.1 ∈ tables_1
theorem lw_p0 : lw_okq (⟨"NeedleTelegraph$Reader", "readItem", "()Z"⟩, 4) := ⟨⟨by decide +kernel, by decide +kernel⟩, List.mem_of_getElem? (i := 40) (by decide +kernel), List.mem_of_getElem? (i := 251) (by decide +kernel), List.mem_of_getElem? (i := 252) (by decide +kernel)⟩
theorem lw_p1 : lw_okq (⟨"NeedleTelegraph$Reader", "takes", "(I)Z"⟩, 4) := ⟨⟨by decide +kernel, by decide +kernel⟩, List.mem_of_getElem? (i := 40) (by decide +kernel), List.mem_of_getElem? (i := 255) (by decide +kernel), List.mem_of_getElem? (i := 256) (by decide +kernel)⟩
theorem lw_p2 : lw_okq (⟨"NeedleTelegraph$Reader", "readChair", "()Z"⟩, 4) := ⟨⟨by decide +kernel, by decide +kernel⟩, List.mem_of_getElem? (i := 40) (by decide +kernel), List.mem_of_getElem? (i := 263) (by decide +kernel), List.mem_of_getElem? (i := 264) (by decide +kernel)⟩
theorem lw_p3 : lw_okq (⟨"NeedleTelegraph$Reader", "number", "()I"⟩, 4) := ⟨⟨by decide +kernel, by decide +kernel⟩, List.mem_of_getElem? (i := 40) (by decide +kernel), List.mem_of_getElem? (i := 267) (by decide +kernel), List.mem_of_getElem? (i := 268) (by decide +kernel)⟩
theorem lw_p4 : lw_okq (⟨"NeedleTelegraph$Reader", "figure", "()I"⟩, 4) := ⟨⟨by decide +kernel, by decide +kernel⟩, List.mem_of_getElem? (i := 40) (by decide +kernel), List.mem_of_getElem? (i := 271) (by decide +kernel), List.mem_of_getElem? (i := 272) (by decide +kernel)⟩
theorem lw_p5 : lw_okq (⟨"NeedleTelegraph$Reader", "readMessage", "()Z"⟩, 4) := ⟨⟨by decide +kernel, by decide +kernel⟩, List.mem_of_getElem? (i := 40) (by decide +kernel), List.mem_of_getElem? (i := 284) (by decide +kernel), List.mem_of_getElem? (i := 285) (by decide +kernel)⟩
theorem lw_p6 : lw_okq (⟨"NeedleTelegraph$Reader", "row", "()I"⟩, 4) := ⟨⟨by decide +kernel, by decide +kernel⟩, List.mem_of_getElem? (i := 40) (by decide +kernel), List.mem_of_getElem? (i := 288) (by decide +kernel), List.mem_of_getElem? (i := 289) (by decide +kernel)⟩
theorem lw_p7 : lw_okq (⟨"NeedleTelegraph$Reader", "readIndoors", "()Z"⟩, 4) := ⟨⟨by decide +kernel, by decide +kernel⟩, List.mem_of_getElem? (i := 40) (by decide +kernel), List.mem_of_getElem? (i := 311) (by decide +kernel), List.mem_of_getElem? (i := 312) (by decide +kernel)⟩
theorem lw_p8 : lw_okq (⟨"NeedleTelegraph", "layWhatWasRead", "()V"⟩, 8) := ⟨⟨by decide +kernel, by decide +kernel⟩, List.mem_of_getElem? (i := 18) (by decide +kernel), List.mem_of_getElem? (i := 326) (by decide +kernel), List.mem_of_getElem? (i := 327) (by decide +kernel)⟩
theorem lw_p9 : lw_okq (⟨"NeedleTelegraph$Pile", "dropOldest", "()V"⟩, 2) := ⟨⟨by decide +kernel, by decide +kernel⟩, List.mem_of_getElem? (i := 141) (by decide +kernel), List.mem_of_getElem? (i := 481) (by decide +kernel), List.mem_of_getElem? (i := 482) (by decide +kernel)⟩
theorem lw_p10 : lw_okq (⟨"NeedleTelegraph$Message", "knitOn", "(LNeedleTelegraph$Valley;I)V"⟩, 6) := ⟨⟨by decide +kernel, by decide +kernel⟩, List.mem_of_getElem? (i := 72) (by decide +kernel), List.mem_of_getElem? (i := 496) (by decide +kernel), List.mem_of_getElem? (i := 497) (by decide +kernel)⟩
theorem lw_p11 : lw_okq (⟨"NeedleTelegraph", "kindsThatDo", "(I)I"⟩, 8) := ⟨⟨by decide +kernel, by decide +kernel⟩, List.mem_of_getElem? (i := 18) (by decide +kernel), List.mem_of_getElem? (i := 642) (by decide +kernel), List.mem_of_getElem? (i := 643) (by decide +kernel)⟩
theorem lw_p12 : lw_okq (⟨"NeedleTelegraph", "tenthsThatCome", "(IIIII)J"⟩, 8) := ⟨⟨by decide +kernel, by decide +kernel⟩, List.mem_of_getElem? (i := 18) (by decide +kernel), List.mem_of_getElem? (i := 660) (by decide +kernel), List.mem_of_getElem? (i := 661) (by decide +kernel)⟩
theorem lw_p13 : lw_okq (⟨"NeedleTelegraph", "happen", "(I)V"⟩, 8) := ⟨⟨by decide +kernel, by decide +kernel⟩, List.mem_of_getElem? (i := 18) (by decide +kernel), List.mem_of_getElem? (i := 687) (by decide +kernel), List.mem_of_getElem? (i := 688) (by decide +kernel)⟩
theorem lw_p14 : lw_okq (⟨"NeedleTelegraphModel", "anew", "()V"⟩, 25) := ⟨⟨by decide +kernel, by decide +kernel⟩, List.mem_of_getElem? (i := 712) (by decide +kernel), List.mem_of_getElem? (i := 718) (by decide +kernel), List.mem_of_getElem? (i := 719) (by decide +kernel)⟩
theorem lw_p15 : lw_okq (⟨"NeedleTelegraphModel", "sits", "(III)V"⟩, 25) := ⟨⟨by decide +kernel, by decide +kernel⟩, List.mem_of_getElem? (i := 712) (by decide +kernel), List.mem_of_getElem? (i := 722) (by decide +kernel), List.mem_of_getElem? (i := 723) (by decide +kernel)⟩
def lw_privs_1 : List (MethodName × Nat) := [(⟨"NeedleTelegraph$Reader", "readItem", "()Z"⟩, 4), (⟨"NeedleTelegraph$Reader", "takes", "(I)Z"⟩, 4), (⟨"NeedleTelegraph$Reader", "readChair", "()Z"⟩, 4), (⟨"NeedleTelegraph$Reader", "number", "()I"⟩, 4), (⟨"NeedleTelegraph$Reader", "figure", "()I"⟩, 4), (⟨"NeedleTelegraph$Reader", "readMessage", "()Z"⟩, 4), (⟨"NeedleTelegraph$Reader", "row", "()I"⟩, 4), (⟨"NeedleTelegraph$Reader", "readIndoors", "()Z"⟩, 4), (⟨"NeedleTelegraph", "layWhatWasRead", "()V"⟩, 8), (⟨"NeedleTelegraph$Pile", "dropOldest", "()V"⟩, 2), (⟨"NeedleTelegraph$Message", "knitOn", "(LNeedleTelegraph$Valley;I)V"⟩, 6), (⟨"NeedleTelegraph", "kindsThatDo", "(I)I"⟩, 8), (⟨"NeedleTelegraph", "tenthsThatCome", "(IIIII)J"⟩, 8), (⟨"NeedleTelegraph", "happen", "(I)V"⟩, 8), (⟨"NeedleTelegraphModel", "anew", "()V"⟩, 25), (⟨"NeedleTelegraphModel", "sits", "(III)V"⟩, 25)]
theorem lw_r1 : ∀ q ∈ lw_privs_1, lw_okq q := List.forall_mem_cons.mpr ⟨lw_p0, List.forall_mem_cons.mpr ⟨lw_p1, List.forall_mem_cons.mpr ⟨lw_p2, List.forall_mem_cons.mpr ⟨lw_p3, List.forall_mem_cons.mpr ⟨lw_p4, List.forall_mem_cons.mpr ⟨lw_p5, List.forall_mem_cons.mpr ⟨lw_p6, List.forall_mem_cons.mpr ⟨lw_p7, List.forall_mem_cons.mpr ⟨lw_p8, List.forall_mem_cons.mpr ⟨lw_p9, List.forall_mem_cons.mpr ⟨lw_p10, List.forall_mem_cons.mpr ⟨lw_p11, List.forall_mem_cons.mpr ⟨lw_p12, List.forall_mem_cons.mpr ⟨lw_p13, List.forall_mem_cons.mpr ⟨lw_p14, List.forall_mem_cons.mpr ⟨lw_p15, fun _ h => absurd h List.not_mem_nil⟩⟩⟩⟩⟩⟩⟩⟩⟩⟩⟩⟩⟩⟩⟩⟩
theorem lw_p16 : lw_okq (⟨"NeedleTelegraphModel", "begins", "(III)V"⟩, 25) := ⟨⟨by decide +kernel, by decide +kernel⟩, List.mem_of_getElem? (i := 712) (by decide +kernel), List.mem_of_getElem? (i := 726) (by decide +kernel), List.mem_of_getElem? (i := 727) (by decide +kernel)⟩
theorem lw_p17 : lw_okq (⟨"NeedleTelegraphModel", "laid", "()V"⟩, 25) := ⟨⟨by decide +kernel, by decide +kernel⟩, List.mem_of_getElem? (i := 712) (by decide +kernel), List.mem_of_getElem? (i := 730) (by decide +kernel), List.mem_of_getElem? (i := 731) (by decide +kernel)⟩
theorem lw_p18 : lw_okq (⟨"NeedleTelegraphModel", "faultOf", "()I"⟩, 25) := ⟨⟨by decide +kernel, by decide +kernel⟩, List.mem_of_getElem? (i := 712) (by decide +kernel), List.mem_of_getElem? (i := 828) (by decide +kernel), List.mem_of_getElem? (i := 829) (by decide +kernel)⟩
theorem lw_p19 : lw_okq (⟨"NeedleTelegraphModel", "readsItem", "()Z"⟩, 25) := ⟨⟨by decide +kernel, by decide +kernel⟩, List.mem_of_getElem? (i := 712) (by decide +kernel), List.mem_of_getElem? (i := 832) (by decide +kernel), List.mem_of_getElem? (i := 833) (by decide +kernel)⟩
theorem lw_p20 : lw_okq (⟨"NeedleTelegraphModel", "here", "()I"⟩, 25) := ⟨⟨by decide +kernel, by decide +kernel⟩, List.mem_of_getElem? (i := 712) (by decide +kernel), List.mem_of_getElem? (i := 836) (by decide +kernel), List.mem_of_getElem? (i := 837) (by decide +kernel)⟩
theorem lw_p21 : lw_okq (⟨"NeedleTelegraphModel", "readsChair", "()Z"⟩, 25) := ⟨⟨by decide +kernel, by decide +kernel⟩, List.mem_of_getElem? (i := 712) (by decide +kernel), List.mem_of_getElem? (i := 840) (by decide +kernel), List.mem_of_getElem? (i := 841) (by decide +kernel)⟩
theorem lw_p22 : lw_okq (⟨"NeedleTelegraphModel", "number", "(I)I"⟩, 25) := ⟨⟨by decide +kernel, by decide +kernel⟩, List.mem_of_getElem? (i := 712) (by decide +kernel), List.mem_of_getElem? (i := 844) (by decide +kernel), List.mem_of_getElem? (i := 845) (by decide +kernel)⟩
theorem lw_p23 : lw_okq (⟨"NeedleTelegraphModel", "readsMessage", "()Z"⟩, 25) := ⟨⟨by decide +kernel, by decide +kernel⟩, List.mem_of_getElem? (i := 712) (by decide +kernel), List.mem_of_getElem? (i := 848) (by decide +kernel), List.mem_of_getElem? (i := 849) (by decide +kernel)⟩
theorem lw_p24 : lw_okq (⟨"NeedleTelegraphModel", "stitches", "()I"⟩, 25) := ⟨⟨by decide +kernel, by decide +kernel⟩, List.mem_of_getElem? (i := 712) (by decide +kernel), List.mem_of_getElem? (i := 852) (by decide +kernel), List.mem_of_getElem? (i := 853) (by decide +kernel)⟩
theorem lw_p25 : lw_okq (⟨"NeedleTelegraphModel", "isChair", "(I)Z"⟩, 25) := ⟨⟨by decide +kernel, by decide +kernel⟩, List.mem_of_getElem? (i := 712) (by decide +kernel), List.mem_of_getElem? (i := 864) (by decide +kernel), List.mem_of_getElem? (i := 865) (by decide +kernel)⟩
theorem lw_p26 : lw_okq (⟨"NeedleTelegraphModel", "atChair", "(I)I"⟩, 25) := ⟨⟨by decide +kernel, by decide +kernel⟩, List.mem_of_getElem? (i := 712) (by decide +kernel), List.mem_of_getElem? (i := 868) (by decide +kernel), List.mem_of_getElem? (i := 869) (by decide +kernel)⟩
theorem lw_p27 : lw_okq (⟨"NeedleTelegraphModel", "isMessage", "(I)Z"⟩, 25) := ⟨⟨by decide +kernel, by decide +kernel⟩, List.mem_of_getElem? (i := 712) (by decide +kernel), List.mem_of_getElem? (i := 879) (by decide +kernel), List.mem_of_getElem? (i := 880) (by decide +kernel)⟩
theorem lw_p28 : lw_okq (⟨"NeedleTelegraphModel", "remember", "()V"⟩, 25) := ⟨⟨by decide +kernel, by decide +kernel⟩, List.mem_of_getElem? (i := 712) (by decide +kernel), List.mem_of_getElem? (i := 904) (by decide +kernel), List.mem_of_getElem? (i := 905) (by decide +kernel)⟩
theorem lw_p29 : lw_okq (⟨"NeedleTelegraphModel", "passes", "([I)V"⟩, 25) := ⟨⟨by decide +kernel, by decide +kernel⟩, List.mem_of_getElem? (i := 712) (by decide +kernel), List.mem_of_getElem? (i := 908) (by decide +kernel), List.mem_of_getElem? (i := 909) (by decide +kernel)⟩
theorem lw_p30 : lw_okq (⟨"NeedleTelegraphModel", "goesOn", "([II)V"⟩, 25) := ⟨⟨by decide +kernel, by decide +kernel⟩, List.mem_of_getElem? (i := 712) (by decide +kernel), List.mem_of_getElem? (i := 912) (by decide +kernel), List.mem_of_getElem? (i := 913) (by decide +kernel)⟩
theorem lw_p31 : lw_okq (⟨"NeedleTelegraphModel", "comesOf", "(II)I"⟩, 25) := ⟨⟨by decide +kernel, by decide +kernel⟩, List.mem_of_getElem? (i := 712) (by decide +kernel), List.mem_of_getElem? (i := 942) (by decide +kernel), List.mem_of_getElem? (i := 943) (by decide +kernel)⟩
def lw_privs_2 : List (MethodName × Nat) := [(⟨"NeedleTelegraphModel", "begins", "(III)V"⟩, 25), (⟨"NeedleTelegraphModel", "laid", "()V"⟩, 25), (⟨"NeedleTelegraphModel", "faultOf", "()I"⟩, 25), (⟨"NeedleTelegraphModel", "readsItem", "()Z"⟩, 25), (⟨"NeedleTelegraphModel", "here", "()I"⟩, 25), (⟨"NeedleTelegraphModel", "readsChair", "()Z"⟩, 25), (⟨"NeedleTelegraphModel", "number", "(I)I"⟩, 25), (⟨"NeedleTelegraphModel", "readsMessage", "()Z"⟩, 25), (⟨"NeedleTelegraphModel", "stitches", "()I"⟩, 25), (⟨"NeedleTelegraphModel", "isChair", "(I)Z"⟩, 25), (⟨"NeedleTelegraphModel", "atChair", "(I)I"⟩, 25), (⟨"NeedleTelegraphModel", "isMessage", "(I)Z"⟩, 25), (⟨"NeedleTelegraphModel", "remember", "()V"⟩, 25), (⟨"NeedleTelegraphModel", "passes", "([I)V"⟩, 25), (⟨"NeedleTelegraphModel", "goesOn", "([II)V"⟩, 25), (⟨"NeedleTelegraphModel", "comesOf", "(II)I"⟩, 25)]
theorem lw_r2 : ∀ q ∈ lw_privs_2, lw_okq q := List.forall_mem_cons.mpr ⟨lw_p16, List.forall_mem_cons.mpr ⟨lw_p17, List.forall_mem_cons.mpr ⟨lw_p18, List.forall_mem_cons.mpr ⟨lw_p19, List.forall_mem_cons.mpr ⟨lw_p20, List.forall_mem_cons.mpr ⟨lw_p21, List.forall_mem_cons.mpr ⟨lw_p22, List.forall_mem_cons.mpr ⟨lw_p23, List.forall_mem_cons.mpr ⟨lw_p24, List.forall_mem_cons.mpr ⟨lw_p25, List.forall_mem_cons.mpr ⟨lw_p26, List.forall_mem_cons.mpr ⟨lw_p27, List.forall_mem_cons.mpr ⟨lw_p28, List.forall_mem_cons.mpr ⟨lw_p29, List.forall_mem_cons.mpr ⟨lw_p30, List.forall_mem_cons.mpr ⟨lw_p31, fun _ h => absurd h List.not_mem_nil⟩⟩⟩⟩⟩⟩⟩⟩⟩⟩⟩⟩⟩⟩⟩⟩
theorem lw_p32 : lw_okq (⟨"NeedleTelegraphModel", "comesBy", "(IIII)I"⟩, 25) := ⟨⟨by decide +kernel, by decide +kernel⟩, List.mem_of_getElem? (i := 712) (by decide +kernel), List.mem_of_getElem? (i := 946) (by decide +kernel), List.mem_of_getElem? (i := 947) (by decide +kernel)⟩
theorem lw_p33 : lw_okq (⟨"NeedleTelegraphModel", "copyNow", "()V"⟩, 25) := ⟨⟨by decide +kernel, by decide +kernel⟩, List.mem_of_getElem? (i := 712) (by decide +kernel), List.mem_of_getElem? (i := 954) (by decide +kernel), List.mem_of_getElem? (i := 955) (by decide +kernel)⟩
theorem lw_p34 : lw_okq (⟨"NeedleTelegraphModel", "allOut", "(I)Z"⟩, 25) := ⟨⟨by decide +kernel, by decide +kernel⟩, List.mem_of_getElem? (i := 712) (by decide +kernel), List.mem_of_getElem? (i := 973) (by decide +kernel), List.mem_of_getElem? (i := 974) (by decide +kernel)⟩
theorem lw_p35 : lw_okq (⟨"NeedleTelegraphModel", "hanging", "(I)I"⟩, 25) := ⟨⟨by decide +kernel, by decide +kernel⟩, List.mem_of_getElem? (i := 712) (by decide +kernel), List.mem_of_getElem? (i := 988) (by decide +kernel), List.mem_of_getElem? (i := 989) (by decide +kernel)⟩
theorem lw_p36 : lw_okq (⟨"NeedleTelegraphModel", "isSo", "(II)Z"⟩, 25) := ⟨⟨by decide +kernel, by decide +kernel⟩, List.mem_of_getElem? (i := 712) (by decide +kernel), List.mem_of_getElem? (i := 1004) (by decide +kernel), List.mem_of_getElem? (i := 1005) (by decide +kernel)⟩
theorem lw_p37 : lw_okq (⟨"NeedleTelegraphModel", "slipped", "(III)I"⟩, 25) := ⟨⟨by decide +kernel, by decide +kernel⟩, List.mem_of_getElem? (i := 712) (by decide +kernel), List.mem_of_getElem? (i := 1016) (by decide +kernel), List.mem_of_getElem? (i := 1017) (by decide +kernel)⟩
theorem lw_p38 : lw_okq (⟨"NeedleTelegraphModel", "atChairs", "()I"⟩, 25) := ⟨⟨by decide +kernel, by decide +kernel⟩, List.mem_of_getElem? (i := 712) (by decide +kernel), List.mem_of_getElem? (i := 1045) (by decide +kernel), List.mem_of_getElem? (i := 1046) (by decide +kernel)⟩
def lw_privs_3 : List (MethodName × Nat) := [(⟨"NeedleTelegraphModel", "comesBy", "(IIII)I"⟩, 25), (⟨"NeedleTelegraphModel", "copyNow", "()V"⟩, 25), (⟨"NeedleTelegraphModel", "allOut", "(I)Z"⟩, 25), (⟨"NeedleTelegraphModel", "hanging", "(I)I"⟩, 25), (⟨"NeedleTelegraphModel", "isSo", "(II)Z"⟩, 25), (⟨"NeedleTelegraphModel", "slipped", "(III)I"⟩, 25), (⟨"NeedleTelegraphModel", "atChairs", "()I"⟩, 25)]
theorem lw_r3 : ∀ q ∈ lw_privs_3, lw_okq q := List.forall_mem_cons.mpr ⟨lw_p32, List.forall_mem_cons.mpr ⟨lw_p33, List.forall_mem_cons.mpr ⟨lw_p34, List.forall_mem_cons.mpr ⟨lw_p35, List.forall_mem_cons.mpr ⟨lw_p36, List.forall_mem_cons.mpr ⟨lw_p37, List.forall_mem_cons.mpr ⟨lw_p38, fun _ h => absurd h List.not_mem_nil⟩⟩⟩⟩⟩⟩⟩
def lw_privs : List (MethodName × Nat) := lw_privs_1 ++ (lw_privs_2 ++ (lw_privs_3))
def lw_tbl : List Cond := k2_sels lw_privs ++ tables_1
theorem lw_privs_ok : ∀ q ∈ lw_privs, lw_okq q := by
  show ∀ q ∈ lw_privs_1 ++ (lw_privs_2 ++ (lw_privs_3)), lw_okq q
  exact List.forall_mem_append.mpr ⟨lw_r1, List.forall_mem_append.mpr ⟨lw_r2, lw_r3⟩⟩
theorem goodIn_r {big : List Cond} (ws : List Cond) (ps : List Nat) (hp : ws = ps.filterMap (fun i => big[i]?)) (h : ws.all goodWord = true) : GoodIn big ws := by
  intro w hw
  have h1 := List.all_eq_true.mp h w hw
  rw [hp] at hw
  obtain ⟨i, -, hi⟩ := List.mem_filterMap.mp hw
  have hm : w ∈ big := by first | exact List.mem_of_getElem? hi | exact List.getElem?_mem hi
  exact ⟨hm, good_of_word h1⟩
theorem goodIn_app {big a b : List Cond} (ha : GoodIn big a) (hb : GoodIn big b) : GoodIn big (a ++ b) := fun w h => (List.mem_append.mp h).elim (ha w) (hb w)
theorem goodIn_ca {big a b : List Cond} {c : Cond} (ha : GoodIn big (c :: a)) (hb : GoodIn big b) : GoodIn big (c :: (a ++ b)) := fun w h => (List.mem_cons.mp h).elim (fun e => ha w (List.mem_cons.mpr (Or.inl e))) (fun h => (List.mem_append.mp h).elim (fun h => ha w (List.mem_cons.mpr (Or.inr h))) (hb w))
theorem goodIn_sub {big ws : List Cond} (hm : ∀ w ∈ ws, w ∈ big) (h : ws.all goodWord = true) : GoodIn big ws := fun w hw => ⟨hm w hw, good_of_word (List.all_eq_true.mp h w hw)⟩

def RX0 : String := "NeedleTelegraph$Letters"
def TX0 : u_T := fun k => match k with
  | 0 => ("NeedleTelegraph$Letters", "letters", "[I", true)
  | _ => ("NeedleTelegraph$Letters", "length", "I", false)
def tyX0 : Nat → FieldType := fun k => match k with
  | 0 => .array .int
  | _ => .int
abbrev wsX00 : List Cond := u_ws RX0 TX0 2
theorem nmX0 : ∀ a, a < 2 → ∀ b, b < 2 → a ≠ b → (TX0 a).2.1 ≠ (TX0 b).2.1 := by decide +kernel
theorem tyX0_ok : ∀ k, k < 2 → parseFieldDescriptor (TX0 k).2.2.1 = some (tyX0 k) := by decide +kernel
abbrev cX0_init : ByteArray := prog_2_method_1_code
def yX0_init : MethodName := ⟨RX0, "<init>", "()V"⟩
abbrev cX0_length : ByteArray := prog_2_method_2_code
def yX0_length : MethodName := ⟨RX0, "length", "()I"⟩
abbrev cX0_add : ByteArray := prog_2_method_3_code
def yX0_add : MethodName := ⟨RX0, "add", "(I)Z"⟩
abbrev cX0_clear : ByteArray := prog_2_method_4_code
def yX0_clear : MethodName := ⟨RX0, "clear", "()V"⟩
abbrev cX0_get : ByteArray := prog_2_method_5_code
def yX0_get : MethodName := ⟨RX0, "get", "(I)I"⟩
def RX1 : String := "NeedleTelegraph$Message"
def TX1 : u_T := fun k => match k with
  | 0 => ("NeedleTelegraph$Message", "begins", "I", false)
  | 1 => ("NeedleTelegraph$Message", "state", "I", false)
  | 2 => ("NeedleTelegraph$Message", "chair", "I", false)
  | 3 => ("NeedleTelegraph$Message", "row", "I", false)
  | 4 => ("NeedleTelegraph$Message", "left", "I", false)
  | _ => ("NeedleTelegraph$Message", "outIn", "I", false)
def tyX1 : Nat → FieldType := fun k => match k with
  | 0 => .int
  | 1 => .int
  | 2 => .int
  | 3 => .int
  | 4 => .int
  | _ => .int
abbrev wsX10 : List Cond := u_ws RX1 TX1 6
theorem nmX1 : ∀ a, a < 6 → ∀ b, b < 6 → a ≠ b → (TX1 a).2.1 ≠ (TX1 b).2.1 := by decide +kernel
theorem tyX1_ok : ∀ k, k < 6 → parseFieldDescriptor (TX1 k).2.2.1 = some (tyX1 k) := by decide +kernel
abbrev cX1_init : ByteArray := prog_3_method_1_code
def yX1_init : MethodName := ⟨RX1, "<init>", "()V"⟩
abbrev cX1_startAs : ByteArray := prog_3_method_2_code
def yX1_startAs : MethodName := ⟨RX1, "startAs", "(III)V"⟩
abbrev cX1_copy : ByteArray := prog_3_method_3_code
def yX1_copy : MethodName := ⟨RX1, "copy", "(LNeedleTelegraph$Message;)V"⟩
abbrev cX1_isAt : ByteArray := prog_3_method_4_code
def yX1_isAt : MethodName := ⟨RX1, "isAt", "(I)Z"⟩
abbrev cX1_goThroughMinute : ByteArray := prog_3_method_5_code
def yX1_goThroughMinute : MethodName := ⟨RX1, "goThroughMinute", "(LNeedleTelegraph$Valley;II)V"⟩
abbrev cX1_knitOn : ByteArray := prog_3_method_6_code
def yX1_knitOn : MethodName := ⟨RX1, "knitOn", "(LNeedleTelegraph$Valley;I)V"⟩
abbrev cX1_chairsAhead : ByteArray := prog_3_method_7_code
def yX1_chairsAhead : MethodName := ⟨RX1, "chairsAhead", "(LNeedleTelegraph$Valley;)I"⟩
abbrev cX1_minutesToSea : ByteArray := prog_3_method_8_code
def yX1_minutesToSea : MethodName := ⟨RX1, "minutesToSea", "(LNeedleTelegraph$Valley;I)I"⟩
def RX2 : String := "NeedleTelegraph$Moment"
def TX2 : u_T := fun k => match k with
  | 0 => ("NeedleTelegraph$Moment", "messages", "[LNeedleTelegraph$Message;", true)
  | 1 => ("NeedleTelegraph$Moment", "noMessage", "LNeedleTelegraph$Message;", true)
  | 2 => ("NeedleTelegraph$Moment", "size", "I", false)
  | 3 => ("NeedleTelegraph$Moment", "minute", "I", false)
  | _ => ("NeedleTelegraph$Moment", "indoors", "I", false)
def tyX2 : Nat → FieldType := fun k => match k with
  | 0 => .array (.object "NeedleTelegraph$Message")
  | 1 => .object "NeedleTelegraph$Message"
  | 2 => .int
  | 3 => .int
  | _ => .int
abbrev wsX20 : List Cond := u_ws RX2 TX2 5
theorem nmX2 : ∀ a, a < 5 → ∀ b, b < 5 → a ≠ b → (TX2 a).2.1 ≠ (TX2 b).2.1 := by decide +kernel
theorem tyX2_ok : ∀ k, k < 5 → parseFieldDescriptor (TX2 k).2.2.1 = some (tyX2 k) := by decide +kernel
abbrev cX2_init : ByteArray := prog_4_method_1_code
def yX2_init : MethodName := ⟨RX2, "<init>", "()V"⟩
abbrev cX2_size : ByteArray := prog_4_method_2_code
def yX2_size : MethodName := ⟨RX2, "size", "()I"⟩
abbrev cX2_minute : ByteArray := prog_4_method_3_code
def yX2_minute : MethodName := ⟨RX2, "minute", "()I"⟩
abbrev cX2_has : ByteArray := prog_4_method_4_code
def yX2_has : MethodName := ⟨RX2, "has", "(I)Z"⟩
abbrev cX2_get : ByteArray := prog_4_method_5_code
def yX2_get : MethodName := ⟨RX2, "get", "(I)LNeedleTelegraph$Message;"⟩
abbrev cX2_clear : ByteArray := prog_4_method_6_code
def yX2_clear : MethodName := ⟨RX2, "clear", "()V"⟩
abbrev cX2_copy : ByteArray := prog_4_method_7_code
def yX2_copy : MethodName := ⟨RX2, "copy", "(LNeedleTelegraph$Moment;)V"⟩
abbrev cX2_add : ByteArray := prog_4_method_8_code
def yX2_add : MethodName := ⟨RX2, "add", "(III)Z"⟩
abbrev cX2_isIndoors : ByteArray := prog_4_method_9_code
def yX2_isIndoors : MethodName := ⟨RX2, "isIndoors", "(I)Z"⟩
abbrev cX2_goInOrOut : ByteArray := prog_4_method_10_code
def yX2_goInOrOut : MethodName := ⟨RX2, "goInOrOut", "(I)V"⟩
abbrev cX2_howManyIndoors : ByteArray := prog_4_method_11_code
def yX2_howManyIndoors : MethodName := ⟨RX2, "howManyIndoors", "()I"⟩
abbrev cX2_goThroughMinute : ByteArray := prog_4_method_12_code
def yX2_goThroughMinute : MethodName := ⟨RX2, "goThroughMinute", "(LNeedleTelegraph$Valley;)V"⟩
abbrev cX2_chairsHolding : ByteArray := prog_4_method_13_code
def yX2_chairsHolding : MethodName := ⟨RX2, "chairsHolding", "(LNeedleTelegraph$Message;LNeedleTelegraph$Valley;)I"⟩
abbrev cX2_areTogether : ByteArray := prog_4_method_14_code
def yX2_areTogether : MethodName := ⟨RX2, "areTogether", "(II)Z"⟩
abbrev cX2_howManyAt : ByteArray := prog_4_method_15_code
def yX2_howManyAt : MethodName := ⟨RX2, "howManyAt", "(I)I"⟩
abbrev cX2_howManyAre : ByteArray := prog_4_method_16_code
def yX2_howManyAre : MethodName := ⟨RX2, "howManyAre", "(I)I"⟩
abbrev cX2_sumOfRowsOut : ByteArray := prog_4_method_17_code
def yX2_sumOfRowsOut : MethodName := ⟨RX2, "sumOfRowsOut", "()I"⟩
def RX3 : String := "NeedleTelegraph$Pile"
def TX3 : u_T := fun k => match k with
  | 0 => ("NeedleTelegraph$Pile", "moments", "[LNeedleTelegraph$Moment;", true)
  | _ => ("NeedleTelegraph$Pile", "size", "I", false)
def tyX3 : Nat → FieldType := fun k => match k with
  | 0 => .array (.object "NeedleTelegraph$Moment")
  | _ => .int
abbrev wsX30 : List Cond := u_ws RX3 TX3 2
theorem nmX3 : ∀ a, a < 2 → ∀ b, b < 2 → a ≠ b → (TX3 a).2.1 ≠ (TX3 b).2.1 := by decide +kernel
theorem tyX3_ok : ∀ k, k < 2 → parseFieldDescriptor (TX3 k).2.2.1 = some (tyX3 k) := by decide +kernel
abbrev cX3_init : ByteArray := prog_5_method_1_code
def yX3_init : MethodName := ⟨RX3, "<init>", "(I)V"⟩
abbrev cX3_size : ByteArray := prog_5_method_2_code
def yX3_size : MethodName := ⟨RX3, "size", "()I"⟩
abbrev cX3_clear : ByteArray := prog_5_method_3_code
def yX3_clear : MethodName := ⟨RX3, "clear", "()V"⟩
abbrev cX3_put : ByteArray := prog_5_method_4_code
def yX3_put : MethodName := ⟨RX3, "put", "(LNeedleTelegraph$Moment;)V"⟩
abbrev cX3_takeInto : ByteArray := prog_5_method_5_code
def yX3_takeInto : MethodName := ⟨RX3, "takeInto", "(LNeedleTelegraph$Moment;)Z"⟩
abbrev cX3_dropOldest : ByteArray := prog_5_method_6_code
def yX3_dropOldest : MethodName := ⟨RX3, "dropOldest", "()V"⟩
def RX4 : String := "NeedleTelegraph$Reader"
def TX4 : u_T := fun k => match k with
  | 0 => ("NeedleTelegraph$Reader", "valley", "LNeedleTelegraph$Valley;", true)
  | 1 => ("NeedleTelegraph$Reader", "moment", "LNeedleTelegraph$Moment;", true)
  | 2 => ("NeedleTelegraph$Reader", "letters", "LNeedleTelegraph$Letters;", true)
  | _ => ("NeedleTelegraph$Reader", "place", "I", false)
def tyX4 : Nat → FieldType := fun k => match k with
  | 0 => .object "NeedleTelegraph$Valley"
  | 1 => .object "NeedleTelegraph$Moment"
  | 2 => .object "NeedleTelegraph$Letters"
  | _ => .int
abbrev wsX40 : List Cond := u_ws RX4 TX4 4
theorem nmX4 : ∀ a, a < 4 → ∀ b, b < 4 → a ≠ b → (TX4 a).2.1 ≠ (TX4 b).2.1 := by decide +kernel
theorem tyX4_ok : ∀ k, k < 4 → parseFieldDescriptor (TX4 k).2.2.1 = some (tyX4 k) := by decide +kernel
abbrev cX4_init : ByteArray := prog_6_method_1_code
def yX4_init : MethodName := ⟨RX4, "<init>", "(LNeedleTelegraph$Letters;)V"⟩
abbrev cX4_read : ByteArray := prog_6_method_2_code
def yX4_read : MethodName := ⟨RX4, "read", "()I"⟩
abbrev cX4_readItem : ByteArray := prog_6_method_3_code
def yX4_readItem : MethodName := ⟨RX4, "readItem", "()Z"⟩
abbrev cX4_readChair : ByteArray := prog_6_method_4_code
def yX4_readChair : MethodName := ⟨RX4, "readChair", "()Z"⟩
abbrev cX4_readMessage : ByteArray := prog_6_method_5_code
def yX4_readMessage : MethodName := ⟨RX4, "readMessage", "()Z"⟩
abbrev cX4_readIndoors : ByteArray := prog_6_method_6_code
def yX4_readIndoors : MethodName := ⟨RX4, "readIndoors", "()Z"⟩
abbrev cX4_takes : ByteArray := prog_6_method_7_code
def yX4_takes : MethodName := ⟨RX4, "takes", "(I)Z"⟩
abbrev cX4_number : ByteArray := prog_6_method_8_code
def yX4_number : MethodName := ⟨RX4, "number", "()I"⟩
abbrev cX4_figure : ByteArray := prog_6_method_9_code
def yX4_figure : MethodName := ⟨RX4, "figure", "()I"⟩
abbrev cX4_row : ByteArray := prog_6_method_10_code
def yX4_row : MethodName := ⟨RX4, "row", "()I"⟩
def RX5 : String := "NeedleTelegraph$Rows"
def TX5 : u_T := fun k => match k with
  | _ => ("", "", "", false)
def tyX5 : Nat → FieldType := fun k => match k with
  | _ => .int
abbrev wsX50 : List Cond := u_ws RX5 TX5 0
theorem nmX5 : ∀ a, a < 0 → ∀ b, b < 0 → a ≠ b → (TX5 a).2.1 ≠ (TX5 b).2.1 := by decide +kernel
theorem tyX5_ok : ∀ k, k < 0 → parseFieldDescriptor (TX5 k).2.2.1 = some (tyX5 k) := by decide +kernel
abbrev cX5_length : ByteArray := prog_7_method_2_code
def yX5_length : MethodName := ⟨RX5, "length", "(I)I"⟩
abbrev cX5_stitch : ByteArray := prog_7_method_3_code
def yX5_stitch : MethodName := ⟨RX5, "stitch", "(II)I"⟩
abbrev cX5_with : ByteArray := prog_7_method_4_code
def yX5_with : MethodName := ⟨RX5, "with", "(II)I"⟩
abbrev cX5_isRow : ByteArray := prog_7_method_5_code
def yX5_isRow : MethodName := ⟨RX5, "isRow", "(I)Z"⟩
abbrev cX5_isRowOrEmpty : ByteArray := prog_7_method_6_code
def yX5_isRowOrEmpty : MethodName := ⟨RX5, "isRowOrEmpty", "(I)Z"⟩
abbrev cX5_withoutFirst : ByteArray := prog_7_method_7_code
def yX5_withoutFirst : MethodName := ⟨RX5, "withoutFirst", "(I)I"⟩
abbrev cX5_knitted : ByteArray := prog_7_method_8_code
def yX5_knitted : MethodName := ⟨RX5, "knitted", "(II)I"⟩
abbrev cX5_withoutEachThird : ByteArray := prog_7_method_9_code
def yX5_withoutEachThird : MethodName := ⟨RX5, "withoutEachThird", "(I)I"⟩
abbrev cX5_misheard : ByteArray := prog_7_method_10_code
def yX5_misheard : MethodName := ⟨RX5, "misheard", "(I)I"⟩
def RX6 : String := "NeedleTelegraph$Seen"
def TX6 : u_T := fun k => match k with
  | 0 => ("NeedleTelegraph$Seen", "chairs", "[I", true)
  | 1 => ("NeedleTelegraph$Seen", "rows", "[I", true)
  | 2 => ("NeedleTelegraph$Seen", "comings", "[I", true)
  | _ => ("NeedleTelegraph$Seen", "size", "I", false)
def tyX6 : Nat → FieldType := fun k => match k with
  | 0 => .array .int
  | 1 => .array .int
  | 2 => .array .int
  | _ => .int
abbrev wsX60 : List Cond := u_ws RX6 TX6 4
theorem nmX6 : ∀ a, a < 4 → ∀ b, b < 4 → a ≠ b → (TX6 a).2.1 ≠ (TX6 b).2.1 := by decide +kernel
theorem tyX6_ok : ∀ k, k < 4 → parseFieldDescriptor (TX6 k).2.2.1 = some (tyX6 k) := by decide +kernel
abbrev cX6_init : ByteArray := prog_8_method_1_code
def yX6_init : MethodName := ⟨RX6, "<init>", "()V"⟩
abbrev cX6_size : ByteArray := prog_8_method_2_code
def yX6_size : MethodName := ⟨RX6, "size", "()I"⟩
abbrev cX6_clear : ByteArray := prog_8_method_3_code
def yX6_clear : MethodName := ⟨RX6, "clear", "()V"⟩
abbrev cX6_add : ByteArray := prog_8_method_4_code
def yX6_add : MethodName := ⟨RX6, "add", "(III)Z"⟩
abbrev cX6_isSo : ByteArray := prog_8_method_5_code
def yX6_isSo : MethodName := ⟨RX6, "isSo", "(LNeedleTelegraph$Valley;II)Z"⟩
def RX7 : String := "NeedleTelegraph$Valley"
def TX7 : u_T := fun k => match k with
  | 0 => ("NeedleTelegraph$Valley", "kinds", "[I", true)
  | 1 => ("NeedleTelegraph$Valley", "paces", "[I", true)
  | 2 => ("NeedleTelegraph$Valley", "nexts", "[I", true)
  | _ => ("NeedleTelegraph$Valley", "size", "I", false)
def tyX7 : Nat → FieldType := fun k => match k with
  | 0 => .array .int
  | 1 => .array .int
  | 2 => .array .int
  | _ => .int
abbrev wsX70 : List Cond := u_ws RX7 TX7 4
theorem nmX7 : ∀ a, a < 4 → ∀ b, b < 4 → a ≠ b → (TX7 a).2.1 ≠ (TX7 b).2.1 := by decide +kernel
theorem tyX7_ok : ∀ k, k < 4 → parseFieldDescriptor (TX7 k).2.2.1 = some (tyX7 k) := by decide +kernel
abbrev cX7_init : ByteArray := prog_9_method_1_code
def yX7_init : MethodName := ⟨RX7, "<init>", "()V"⟩
abbrev cX7_size : ByteArray := prog_9_method_2_code
def yX7_size : MethodName := ⟨RX7, "size", "()I"⟩
abbrev cX7_has : ByteArray := prog_9_method_3_code
def yX7_has : MethodName := ⟨RX7, "has", "(I)Z"⟩
abbrev cX7_kindOf : ByteArray := prog_9_method_4_code
def yX7_kindOf : MethodName := ⟨RX7, "kindOf", "(I)I"⟩
abbrev cX7_paceOf : ByteArray := prog_9_method_5_code
def yX7_paceOf : MethodName := ⟨RX7, "paceOf", "(I)I"⟩
abbrev cX7_nextOf : ByteArray := prog_9_method_6_code
def yX7_nextOf : MethodName := ⟨RX7, "nextOf", "(I)I"⟩
abbrev cX7_isAtSea : ByteArray := prog_9_method_7_code
def yX7_isAtSea : MethodName := ⟨RX7, "isAtSea", "(I)Z"⟩
abbrev cX7_clear : ByteArray := prog_9_method_8_code
def yX7_clear : MethodName := ⟨RX7, "clear", "()V"⟩
abbrev cX7_add : ByteArray := prog_9_method_9_code
def yX7_add : MethodName := ⟨RX7, "add", "(III)Z"⟩
abbrev cX7_copy : ByteArray := prog_9_method_10_code
def yX7_copy : MethodName := ⟨RX7, "copy", "(LNeedleTelegraph$Valley;)V"⟩
abbrev cX7_rowAtSea : ByteArray := prog_9_method_11_code
def yX7_rowAtSea : MethodName := ⟨RX7, "rowAtSea", "(II)I"⟩
abbrev cX7_rowAtSeaWere : ByteArray := prog_9_method_12_code
def yX7_rowAtSeaWere : MethodName := ⟨RX7, "rowAtSeaWere", "(IIII)I"⟩
abbrev cX7_wayToSea : ByteArray := prog_9_method_13_code
def yX7_wayToSea : MethodName := ⟨RX7, "wayToSea", "(I)I"⟩
abbrev cX7_minutesToSea : ByteArray := prog_9_method_14_code
def yX7_minutesToSea : MethodName := ⟨RX7, "minutesToSea", "(I)I"⟩
abbrev cX7_chairsToSea : ByteArray := prog_9_method_15_code
def yX7_chairsToSea : MethodName := ⟨RX7, "chairsToSea", "(I)I"⟩
abbrev cX7_howManyKnitBy : ByteArray := prog_9_method_16_code
def yX7_howManyKnitBy : MethodName := ⟨RX7, "howManyKnitBy", "(I)I"⟩
def RX8 : String := "NeedleTelegraph"
def TX8 : u_T := fun k => match k with
  | 0 => ("NeedleTelegraph", "letters", "LNeedleTelegraph$Letters;", true)
  | 1 => ("NeedleTelegraph", "reader", "LNeedleTelegraph$Reader;", true)
  | 2 => ("NeedleTelegraph", "valley", "LNeedleTelegraph$Valley;", true)
  | 3 => ("NeedleTelegraph", "now", "LNeedleTelegraph$Moment;", true)
  | 4 => ("NeedleTelegraph", "supposed", "LNeedleTelegraph$Moment;", true)
  | 5 => ("NeedleTelegraph", "undone", "LNeedleTelegraph$Pile;", true)
  | 6 => ("NeedleTelegraph", "kept", "LNeedleTelegraph$Pile;", true)
  | _ => ("NeedleTelegraph", "seen", "LNeedleTelegraph$Seen;", true)
def tyX8 : Nat → FieldType := fun k => match k with
  | 0 => .object "NeedleTelegraph$Letters"
  | 1 => .object "NeedleTelegraph$Reader"
  | 2 => .object "NeedleTelegraph$Valley"
  | 3 => .object "NeedleTelegraph$Moment"
  | 4 => .object "NeedleTelegraph$Moment"
  | 5 => .object "NeedleTelegraph$Pile"
  | 6 => .object "NeedleTelegraph$Pile"
  | _ => .object "NeedleTelegraph$Seen"
abbrev wsX80 : List Cond := u_ws RX8 TX8 8
theorem nmX8 : ∀ a, a < 8 → ∀ b, b < 8 → a ≠ b → (TX8 a).2.1 ≠ (TX8 b).2.1 := by decide +kernel
theorem tyX8_ok : ∀ k, k < 8 → parseFieldDescriptor (TX8 k).2.2.1 = some (tyX8 k) := by decide +kernel
abbrev cX8_init : ByteArray := prog_1_method_1_code
def yX8_init : MethodName := ⟨RX8, "<init>", "()V"⟩
abbrev cX8_write : ByteArray := prog_1_method_2_code
def yX8_write : MethodName := ⟨RX8, "write", "(I)I"⟩
abbrev cX8_wipe : ByteArray := prog_1_method_3_code
def yX8_wipe : MethodName := ⟨RX8, "wipe", "()I"⟩
abbrev cX8_fault : ByteArray := prog_1_method_4_code
def yX8_fault : MethodName := ⟨RX8, "fault", "()I"⟩
abbrev cX8_lay : ByteArray := prog_1_method_5_code
def yX8_lay : MethodName := ⟨RX8, "lay", "()I"⟩
abbrev cX8_chair : ByteArray := prog_1_method_6_code
def yX8_chair : MethodName := ⟨RX8, "chair", "(II)I"⟩
abbrev cX8_message : ByteArray := prog_1_method_7_code
def yX8_message : MethodName := ⟨RX8, "message", "(II)I"⟩
abbrev cX8_knit : ByteArray := prog_1_method_8_code
def yX8_knit : MethodName := ⟨RX8, "knit", "(II)I"⟩
abbrev cX8_pass : ByteArray := prog_1_method_9_code
def yX8_pass : MethodName := ⟨RX8, "pass", "(I)I"⟩
abbrev cX8_rain : ByteArray := prog_1_method_10_code
def yX8_rain : MethodName := ⟨RX8, "rain", "(I)I"⟩
abbrev cX8_send : ByteArray := prog_1_method_11_code
def yX8_send : MethodName := ⟨RX8, "send", "(II)I"⟩
abbrev cX8_alter : ByteArray := prog_1_method_12_code
def yX8_alter : MethodName := ⟨RX8, "alter", "(II)I"⟩
abbrev cX8_undo : ByteArray := prog_1_method_13_code
def yX8_undo : MethodName := ⟨RX8, "undo", "()I"⟩
abbrev cX8_comes : ByteArray := prog_1_method_14_code
def yX8_comes : MethodName := ⟨RX8, "comes", "(III)I"⟩
abbrev cX8_out : ByteArray := prog_1_method_15_code
def yX8_out : MethodName := ⟨RX8, "out", "(II)I"⟩
abbrev cX8_code : ByteArray := prog_1_method_16_code
def yX8_code : MethodName := ⟨RX8, "code", "(II)I"⟩
abbrev cX8_could : ByteArray := prog_1_method_17_code
def yX8_could : MethodName := ⟨RX8, "could", "(II)I"⟩
abbrev cX8_bring : ByteArray := prog_1_method_18_code
def yX8_bring : MethodName := ⟨RX8, "bring", "(I)I"⟩
abbrev cX8_meet : ByteArray := prog_1_method_19_code
def yX8_meet : MethodName := ⟨RX8, "meet", "(II)I"⟩
abbrev cX8_hangs : ByteArray := prog_1_method_20_code
def yX8_hangs : MethodName := ⟨RX8, "hangs", "(I)I"⟩
abbrev cX8_see : ByteArray := prog_1_method_21_code
def yX8_see : MethodName := ⟨RX8, "see", "(III)I"⟩
abbrev cX8_forget : ByteArray := prog_1_method_22_code
def yX8_forget : MethodName := ⟨RX8, "forget", "()I"⟩
abbrev cX8_kinds : ByteArray := prog_1_method_23_code
def yX8_kinds : MethodName := ⟨RX8, "kinds", "(I)I"⟩
abbrev cX8_lies : ByteArray := prog_1_method_24_code
def yX8_lies : MethodName := ⟨RX8, "lies", "()I"⟩
abbrev cX8_slips : ByteArray := prog_1_method_25_code
def yX8_slips : MethodName := ⟨RX8, "slips", "(IIII)I"⟩
abbrev cX8_evening : ByteArray := prog_1_method_26_code
def yX8_evening : MethodName := ⟨RX8, "evening", "(III)I"⟩
abbrev cX8_keep : ByteArray := prog_1_method_27_code
def yX8_keep : MethodName := ⟨RX8, "keep", "()I"⟩
abbrev cX8_back : ByteArray := prog_1_method_28_code
def yX8_back : MethodName := ⟨RX8, "back", "()I"⟩
abbrev cX8_count : ByteArray := prog_1_method_29_code
def yX8_count : MethodName := ⟨RX8, "count", "(I)I"⟩
abbrev cX8_isBetween : ByteArray := prog_1_method_30_code
def yX8_isBetween : MethodName := ⟨RX8, "isBetween", "(III)Z"⟩
abbrev cX8_isIn : ByteArray := prog_1_method_31_code
def yX8_isIn : MethodName := ⟨RX8, "isIn", "(II)Z"⟩
abbrev cX8_at : ByteArray := prog_1_method_32_code
def yX8_at : MethodName := ⟨RX8, "at", "([II)I"⟩
abbrev cX8_set : ByteArray := prog_1_method_33_code
def yX8_set : MethodName := ⟨RX8, "set", "([III)V"⟩
abbrev cX8_layWhatWasRead : ByteArray := prog_1_method_34_code
def yX8_layWhatWasRead : MethodName := ⟨RX8, "layWhatWasRead", "()V"⟩
abbrev cX8_kindsThatDo : ByteArray := prog_1_method_35_code
def yX8_kindsThatDo : MethodName := ⟨RX8, "kindsThatDo", "(I)I"⟩
abbrev cX8_tenthsThatCome : ByteArray := prog_1_method_36_code
def yX8_tenthsThatCome : MethodName := ⟨RX8, "tenthsThatCome", "(IIIII)J"⟩
abbrev cX8_greatestDivisor : ByteArray := prog_1_method_37_code
def yX8_greatestDivisor : MethodName := ⟨RX8, "greatestDivisor", "(JJ)J"⟩
abbrev cX8_draw : ByteArray := prog_1_method_38_code
def yX8_draw : MethodName := ⟨RX8, "draw", "(II)I"⟩
abbrev cX8_happen : ByteArray := prog_1_method_39_code
def yX8_happen : MethodName := ⟨RX8, "happen", "(I)V"⟩
def RX9 : String := "NeedleTelegraphModel"
def TX9 : u_T := fun k => match k with
  | 0 => ("NeedleTelegraphModel", "letterMany", "I", false)
  | 1 => ("NeedleTelegraphModel", "text", "[I", true)
  | 2 => ("NeedleTelegraphModel", "readAt", "I", false)
  | 3 => ("NeedleTelegraphModel", "readChairs", "I", false)
  | 4 => ("NeedleTelegraphModel", "readMessages", "I", false)
  | 5 => ("NeedleTelegraphModel", "readIndoors", "I", false)
  | 6 => ("NeedleTelegraphModel", "readKinds", "[I", true)
  | 7 => ("NeedleTelegraphModel", "readPaces", "[I", true)
  | 8 => ("NeedleTelegraphModel", "readOns", "[I", true)
  | 9 => ("NeedleTelegraphModel", "readWhere", "[I", true)
  | 10 => ("NeedleTelegraphModel", "readWhen", "[I", true)
  | 11 => ("NeedleTelegraphModel", "readRows", "[I", true)
  | 12 => ("NeedleTelegraphModel", "n", "I", false)
  | 13 => ("NeedleTelegraphModel", "kindOf", "[I", true)
  | 14 => ("NeedleTelegraphModel", "paces", "[I", true)
  | 15 => ("NeedleTelegraphModel", "ons", "[I", true)
  | 16 => ("NeedleTelegraphModel", "now", "[I", true)
  | 17 => ("NeedleTelegraphModel", "tried", "[I", true)
  | 18 => ("NeedleTelegraphModel", "undoMany", "I", false)
  | 19 => ("NeedleTelegraphModel", "undoAt", "I", false)
  | 20 => ("NeedleTelegraphModel", "undos", "[I", true)
  | 21 => ("NeedleTelegraphModel", "seenMany", "I", false)
  | 22 => ("NeedleTelegraphModel", "seen", "[I", true)
  | 23 => ("NeedleTelegraphModel", "keptMany", "I", false)
  | _ => ("NeedleTelegraphModel", "kept", "[I", true)
def tyX9 : Nat → FieldType := fun k => match k with
  | 0 => .int
  | 1 => .array .int
  | 2 => .int
  | 3 => .int
  | 4 => .int
  | 5 => .int
  | 6 => .array .int
  | 7 => .array .int
  | 8 => .array .int
  | 9 => .array .int
  | 10 => .array .int
  | 11 => .array .int
  | 12 => .int
  | 13 => .array .int
  | 14 => .array .int
  | 15 => .array .int
  | 16 => .array .int
  | 17 => .array .int
  | 18 => .int
  | 19 => .int
  | 20 => .array .int
  | 21 => .int
  | 22 => .array .int
  | 23 => .int
  | _ => .array .int
abbrev wsX90 : List Cond := u_ws RX9 TX9 25
theorem nmX9 : ∀ a, a < 25 → ∀ b, b < 25 → a ≠ b → (TX9 a).2.1 ≠ (TX9 b).2.1 := by decide +kernel
theorem tyX9_ok : ∀ k, k < 25 → parseFieldDescriptor (TX9 k).2.2.1 = some (tyX9 k) := by decide +kernel
abbrev cX9_init : ByteArray := prog_11_method_1_code
def yX9_init : MethodName := ⟨RX9, "<init>", "()V"⟩
abbrev cX9_in : ByteArray := prog_11_method_2_code
def yX9_in : MethodName := ⟨RX9, "in", "(III)Z"⟩
abbrev cX9_has : ByteArray := prog_11_method_3_code
def yX9_has : MethodName := ⟨RX9, "has", "(II)Z"⟩
abbrev cX9_bits : ByteArray := prog_11_method_4_code
def yX9_bits : MethodName := ⟨RX9, "bits", "(I)I"⟩
abbrev cX9_lengthOf : ByteArray := prog_11_method_5_code
def yX9_lengthOf : MethodName := ⟨RX9, "lengthOf", "(I)I"⟩
abbrev cX9_isRow : ByteArray := prog_11_method_6_code
def yX9_isRow : MethodName := ⟨RX9, "isRow", "(I)Z"⟩
abbrev cX9_power : ByteArray := prog_11_method_7_code
def yX9_power : MethodName := ⟨RX9, "power", "(I)I"⟩
abbrev cX9_knitBy : ByteArray := prog_11_method_8_code
def yX9_knitBy : MethodName := ⟨RX9, "knitBy", "(II)I"⟩
abbrev cX9_anew : ByteArray := prog_11_method_9_code
def yX9_anew : MethodName := ⟨RX9, "anew", "()V"⟩
abbrev cX9_sits : ByteArray := prog_11_method_10_code
def yX9_sits : MethodName := ⟨RX9, "sits", "(III)V"⟩
abbrev cX9_begins : ByteArray := prog_11_method_11_code
def yX9_begins : MethodName := ⟨RX9, "begins", "(III)V"⟩
abbrev cX9_write : ByteArray := prog_11_method_12_code
def yX9_write : MethodName := ⟨RX9, "write", "(I)I"⟩
abbrev cX9_wipe : ByteArray := prog_11_method_13_code
def yX9_wipe : MethodName := ⟨RX9, "wipe", "()I"⟩
abbrev cX9_here : ByteArray := prog_11_method_14_code
def yX9_here : MethodName := ⟨RX9, "here", "()I"⟩
abbrev cX9_number : ByteArray := prog_11_method_15_code
def yX9_number : MethodName := ⟨RX9, "number", "(I)I"⟩
abbrev cX9_readsChair : ByteArray := prog_11_method_16_code
def yX9_readsChair : MethodName := ⟨RX9, "readsChair", "()Z"⟩
abbrev cX9_stitches : ByteArray := prog_11_method_17_code
def yX9_stitches : MethodName := ⟨RX9, "stitches", "()I"⟩
abbrev cX9_readsMessage : ByteArray := prog_11_method_18_code
def yX9_readsMessage : MethodName := ⟨RX9, "readsMessage", "()Z"⟩
abbrev cX9_readsItem : ByteArray := prog_11_method_19_code
def yX9_readsItem : MethodName := ⟨RX9, "readsItem", "()Z"⟩
abbrev cX9_faultOf : ByteArray := prog_11_method_20_code
def yX9_faultOf : MethodName := ⟨RX9, "faultOf", "()I"⟩
abbrev cX9_fault : ByteArray := prog_11_method_21_code
def yX9_fault : MethodName := ⟨RX9, "fault", "()I"⟩
abbrev cX9_laid : ByteArray := prog_11_method_22_code
def yX9_laid : MethodName := ⟨RX9, "laid", "()V"⟩
abbrev cX9_adds : ByteArray := prog_11_method_23_code
def yX9_adds : MethodName := ⟨RX9, "adds", "([IIII)V"⟩
abbrev cX9_lay : ByteArray := prog_11_method_24_code
def yX9_lay : MethodName := ⟨RX9, "lay", "()I"⟩
abbrev cX9_isChair : ByteArray := prog_11_method_25_code
def yX9_isChair : MethodName := ⟨RX9, "isChair", "(I)Z"⟩
abbrev cX9_isMessage : ByteArray := prog_11_method_26_code
def yX9_isMessage : MethodName := ⟨RX9, "isMessage", "(I)Z"⟩
abbrev cX9_is : ByteArray := prog_11_method_27_code
def yX9_is : MethodName := ⟨RX9, "is", "([III)I"⟩
abbrev cX9_atChair : ByteArray := prog_11_method_28_code
def yX9_atChair : MethodName := ⟨RX9, "atChair", "(I)I"⟩
abbrev cX9_chair : ByteArray := prog_11_method_29_code
def yX9_chair : MethodName := ⟨RX9, "chair", "(II)I"⟩
abbrev cX9_message : ByteArray := prog_11_method_30_code
def yX9_message : MethodName := ⟨RX9, "message", "(II)I"⟩
abbrev cX9_knit : ByteArray := prog_11_method_31_code
def yX9_knit : MethodName := ⟨RX9, "knit", "(II)I"⟩
abbrev cX9_goesOn : ByteArray := prog_11_method_32_code
def yX9_goesOn : MethodName := ⟨RX9, "goesOn", "([II)V"⟩
abbrev cX9_passes : ByteArray := prog_11_method_33_code
def yX9_passes : MethodName := ⟨RX9, "passes", "([I)V"⟩
abbrev cX9_outOf : ByteArray := prog_11_method_34_code
def yX9_outOf : MethodName := ⟨RX9, "outOf", "([I)I"⟩
abbrev cX9_remember : ByteArray := prog_11_method_35_code
def yX9_remember : MethodName := ⟨RX9, "remember", "()V"⟩
abbrev cX9_pass : ByteArray := prog_11_method_36_code
def yX9_pass : MethodName := ⟨RX9, "pass", "(I)I"⟩
abbrev cX9_rain : ByteArray := prog_11_method_37_code
def yX9_rain : MethodName := ⟨RX9, "rain", "(I)I"⟩
abbrev cX9_send : ByteArray := prog_11_method_38_code
def yX9_send : MethodName := ⟨RX9, "send", "(II)I"⟩
abbrev cX9_alter : ByteArray := prog_11_method_39_code
def yX9_alter : MethodName := ⟨RX9, "alter", "(II)I"⟩
abbrev cX9_undo : ByteArray := prog_11_method_40_code
def yX9_undo : MethodName := ⟨RX9, "undo", "()I"⟩
abbrev cX9_comesBy : ByteArray := prog_11_method_41_code
def yX9_comesBy : MethodName := ⟨RX9, "comesBy", "(IIII)I"⟩
abbrev cX9_comesOf : ByteArray := prog_11_method_42_code
def yX9_comesOf : MethodName := ⟨RX9, "comesOf", "(II)I"⟩
abbrev cX9_comes : ByteArray := prog_11_method_43_code
def yX9_comes : MethodName := ⟨RX9, "comes", "(III)I"⟩
abbrev cX9_copyNow : ByteArray := prog_11_method_44_code
def yX9_copyNow : MethodName := ⟨RX9, "copyNow", "()V"⟩
abbrev cX9_out : ByteArray := prog_11_method_45_code
def yX9_out : MethodName := ⟨RX9, "out", "(II)I"⟩
abbrev cX9_code : ByteArray := prog_11_method_46_code
def yX9_code : MethodName := ⟨RX9, "code", "(II)I"⟩
abbrev cX9_could : ByteArray := prog_11_method_47_code
def yX9_could : MethodName := ⟨RX9, "could", "(II)I"⟩
abbrev cX9_allOut : ByteArray := prog_11_method_48_code
def yX9_allOut : MethodName := ⟨RX9, "allOut", "(I)Z"⟩
abbrev cX9_bring : ByteArray := prog_11_method_49_code
def yX9_bring : MethodName := ⟨RX9, "bring", "(I)I"⟩
abbrev cX9_isMet : ByteArray := prog_11_method_50_code
def yX9_isMet : MethodName := ⟨RX9, "isMet", "([III)Z"⟩
abbrev cX9_meet : ByteArray := prog_11_method_51_code
def yX9_meet : MethodName := ⟨RX9, "meet", "(II)I"⟩
abbrev cX9_hanging : ByteArray := prog_11_method_52_code
def yX9_hanging : MethodName := ⟨RX9, "hanging", "(I)I"⟩
abbrev cX9_hangs : ByteArray := prog_11_method_53_code
def yX9_hangs : MethodName := ⟨RX9, "hangs", "(I)I"⟩
abbrev cX9_see : ByteArray := prog_11_method_54_code
def yX9_see : MethodName := ⟨RX9, "see", "(III)I"⟩
abbrev cX9_forget : ByteArray := prog_11_method_55_code
def yX9_forget : MethodName := ⟨RX9, "forget", "()I"⟩
abbrev cX9_isSo : ByteArray := prog_11_method_56_code
def yX9_isSo : MethodName := ⟨RX9, "isSo", "(II)Z"⟩
abbrev cX9_kinds : ByteArray := prog_11_method_57_code
def yX9_kinds : MethodName := ⟨RX9, "kinds", "(I)I"⟩
abbrev cX9_lies : ByteArray := prog_11_method_58_code
def yX9_lies : MethodName := ⟨RX9, "lies", "()I"⟩
abbrev cX9_withoutFirst : ByteArray := prog_11_method_59_code
def yX9_withoutFirst : MethodName := ⟨RX9, "withoutFirst", "(I)I"⟩
abbrev cX9_slipped : ByteArray := prog_11_method_60_code
def yX9_slipped : MethodName := ⟨RX9, "slipped", "(III)I"⟩
abbrev cX9_common : ByteArray := prog_11_method_61_code
def yX9_common : MethodName := ⟨RX9, "common", "(II)I"⟩
abbrev cX9_slips : ByteArray := prog_11_method_62_code
def yX9_slips : MethodName := ⟨RX9, "slips", "(IIII)I"⟩
abbrev cX9_evening : ByteArray := prog_11_method_63_code
def yX9_evening : MethodName := ⟨RX9, "evening", "(III)I"⟩
abbrev cX9_keep : ByteArray := prog_11_method_64_code
def yX9_keep : MethodName := ⟨RX9, "keep", "()I"⟩
abbrev cX9_back : ByteArray := prog_11_method_65_code
def yX9_back : MethodName := ⟨RX9, "back", "()I"⟩
abbrev cX9_atChairs : ByteArray := prog_11_method_66_code
def yX9_atChairs : MethodName := ⟨RX9, "atChairs", "()I"⟩
abbrev cX9_count : ByteArray := prog_11_method_67_code
def yX9_count : MethodName := ⟨RX9, "count", "(I)I"⟩
def RJ6 : String := "java/lang/Integer"
def TJ6 : u_T := fun k => match k with
  | _ => ("", "", "", false)
def tyJ6 : Nat → FieldType := fun k => match k with
  | _ => .int
abbrev wsJ60 : List Cond := u_ws RJ6 TJ6 0
theorem nmJ6 : ∀ a, a < 0 → ∀ b, b < 0 → a ≠ b → (TJ6 a).2.1 ≠ (TJ6 b).2.1 := by decide +kernel
theorem tyJ6_ok : ∀ k, k < 0 → parseFieldDescriptor (TJ6 k).2.2.1 = some (tyJ6 k) := by decide +kernel
abbrev cJ6_bitCount_0f7a4 : ByteArray := prog_12_method_49_code
def yJ6_bitCount_0f7a4 : MethodName := ⟨RJ6, "bitCount", "(I)I"⟩
def RJ9 : String := "java/lang/Math"
def TJ9 : u_T := fun k => match k with
  | _ => ("", "", "", false)
def tyJ9 : Nat → FieldType := fun k => match k with
  | _ => .int
abbrev wsJ90 : List Cond := u_ws RJ9 TJ9 0
theorem nmJ9 : ∀ a, a < 0 → ∀ b, b < 0 → a ≠ b → (TJ9 a).2.1 ≠ (TJ9 b).2.1 := by decide +kernel
theorem tyJ9_ok : ∀ k, k < 0 → parseFieldDescriptor (TJ9 k).2.2.1 = some (tyJ9 k) := by decide +kernel
abbrev cJ9_max_7cf53 : ByteArray := prog_13_method_65_code
def yJ9_max_7cf53 : MethodName := ⟨RJ9, "max", "(II)I"⟩
def RJ0 : String := "java/lang/String"
def TJ0 : u_T := fun k => match k with
  | _ => ("", "", "", false)
def tyJ0 : Nat → FieldType := fun k => match k with
  | _ => .int
abbrev wsJ00 : List Cond := u_ws RJ0 TJ0 0
theorem nmJ0 : ∀ a, a < 0 → ∀ b, b < 0 → a ≠ b → (TJ0 a).2.1 ≠ (TJ0 b).2.1 := by decide +kernel
theorem tyJ0_ok : ∀ k, k < 0 → parseFieldDescriptor (TJ0 k).2.2.1 = some (tyJ0 k) := by decide +kernel
abbrev cJ0_length_8abf5 : ByteArray := prog_14_method_54_code
def yJ0_length_8abf5 : MethodName := ⟨RJ0, "length", "()I"⟩
abbrev cJ0_charAt_5068e : ByteArray := prog_14_method_56_code
def yJ0_charAt_5068e : MethodName := ⟨RJ0, "charAt", "(I)C"⟩
abbrev cJ0_coder_7d493 : ByteArray := prog_14_method_152_code
def yJ0_coder_7d493 : MethodName := ⟨RJ0, "coder", "()B"⟩
abbrev cJ0_isLatin1_aae02 : ByteArray := prog_14_method_154_code
def yJ0_isLatin1_aae02 : MethodName := ⟨RJ0, "isLatin1", "()Z"⟩
abbrev cJ0_checkIndex_df160 : ByteArray := prog_14_method_155_code
def yJ0_checkIndex_df160 : MethodName := ⟨RJ0, "checkIndex", "(II)V"⟩
def RJ1 : String := "java/lang/StringLatin1"
def TJ1 : u_T := fun k => match k with
  | _ => ("", "", "", false)
def tyJ1 : Nat → FieldType := fun k => match k with
  | _ => .int
abbrev wsJ10 : List Cond := u_ws RJ1 TJ1 0
theorem nmJ1 : ∀ a, a < 0 → ∀ b, b < 0 → a ≠ b → (TJ1 a).2.1 ≠ (TJ1 b).2.1 := by decide +kernel
theorem tyJ1_ok : ∀ k, k < 0 → parseFieldDescriptor (TJ1 k).2.2.1 = some (tyJ1 k) := by decide +kernel
abbrev cJ1_charAt_3b067 : ByteArray := prog_15_method_2_code
def yJ1_charAt_3b067 : MethodName := ⟨RJ1, "charAt", "([BI)C"⟩
def RJ2 : String := "java/lang/StringUTF16"
def TJ2 : u_T := fun k => match k with
  | _ => ("", "", "", false)
def tyJ2 : Nat → FieldType := fun k => match k with
  | _ => .int
abbrev wsJ20 : List Cond := u_ws RJ2 TJ2 0
theorem nmJ2 : ∀ a, a < 0 → ∀ b, b < 0 → a ≠ b → (TJ2 a).2.1 ≠ (TJ2 b).2.1 := by decide +kernel
theorem tyJ2_ok : ∀ k, k < 0 → parseFieldDescriptor (TJ2 k).2.2.1 = some (tyJ2 k) := by decide +kernel
abbrev cJ2_getChar_3b067 : ByteArray := prog_16_method_5_code
def yJ2_getChar_3b067 : MethodName := ⟨RJ2, "getChar", "([BI)C"⟩
abbrev cJ2_length_9d52b : ByteArray := prog_16_method_6_code
def yJ2_length_9d52b : MethodName := ⟨RJ2, "length", "([B)I"⟩
abbrev cJ2_charAt_3b067 : ByteArray := prog_16_method_83_code
def yJ2_charAt_3b067 : MethodName := ⟨RJ2, "charAt", "([BI)C"⟩
abbrev cJ2_checkIndex_2214a : ByteArray := prog_16_method_91_code
def yJ2_checkIndex_2214a : MethodName := ⟨RJ2, "checkIndex", "(I[B)V"⟩
def RJ3 : String := "jdk/internal/util/Preconditions"
def TJ3 : u_T := fun k => match k with
  | _ => ("", "", "", false)
def tyJ3 : Nat → FieldType := fun k => match k with
  | _ => .int
abbrev wsJ30 : List Cond := u_ws RJ3 TJ3 0
theorem nmJ3 : ∀ a, a < 0 → ∀ b, b < 0 → a ≠ b → (TJ3 a).2.1 ≠ (TJ3 b).2.1 := by decide +kernel
theorem tyJ3_ok : ∀ k, k < 0 → parseFieldDescriptor (TJ3 k).2.2.1 = some (tyJ3 k) := by decide +kernel
abbrev cJ3_checkIndex_8e157 : ByteArray := prog_17_method_11_code
def yJ3_checkIndex_8e157 : MethodName := ⟨RJ3, "checkIndex", "(IILjava/util/function/BiFunction;)I"⟩
def RL : String := "NeedleTelegraphLaw"
abbrev cL_law : ByteArray := code
def yL_law : MethodName := ⟨RL, "law", "([I)Z"⟩
abbrev vwCl : List vw_C := [(RX0, TX0, 2), (RX1, TX1, 6), (RX2, TX2, 5), (RX3, TX3, 2), (RX4, TX4, 4), (RX6, TX6, 4), (RX7, TX7, 4), (RX8, TX8, 8), (RX9, TX9, 25)]
end
section
/-! THE SMALL MACHINE: what the landed bytecode does, over ids instead of addresses; a cell's content is f (whole numbers) and g (references) -/
abbrev FF : Type := Nat → Nat → Int32
abbrev GG : Type := Nat → Nat → Option Nat
abbrev LL : Type := List (Option Value)
/-- an instruction, the place of the next, two numbers (a jump's target, a field, a callee; the place of its word), a small constant -/
abbrev Ent : Type := Instr × Nat × Nat × Nat × Int32
abbrev Nxt : Type := Nat × LL × List Value × Nat × FF × GG
abbrev Res : Type := Option Value × Nat × FF × GG
abbrev Scr : Type := (Nat → Int32) × Nat
def fup (f : FF) (a k : Nat) (v : Int32) : FF := fun x y => if x = a ∧ y = k then v else f x y
def gup (g : GG) (a k : Nat) (v : Option Nat) : GG := fun x y => if x = a ∧ y = k then v else g x y
def lget (ls : LL) (i : Nat) : Option Value := (ls[i]?).join
def isL (o : Option Value) : Bool := match o with
  | some v => Nat.beq v.category 2
  | none => false
def st1 (ls : LL) (i : Nat) (v : Value) : LL := match i with
  | 0 => ls.set 0 (some v)
  | k + 1 => match isL (lget ls k) with
    | true => (ls.set k none).set (k + 1) (some v)
    | false => ls.set (k + 1) (some v)
def st2 (ls : LL) (i : Nat) (v : Value) : LL := (st1 ls i v).set (i + 1) none
def isA (v : Value) : Bool := match v with
  | .ref _ => true
  | .null => true
  | .float _ => true
  | _ => false
def ldI (o : Option Value) : Option Value := match o with
  | some (.int x) => some (.int x)
  | _ => none
def ldL (o : Option Value) : Option Value := match o with
  | some (.long x) => some (.long x)
  | _ => none
def ldA (o : Option Value) : Option Value := match o with
  | some v => if isA v = true then some v else none
  | _ => none
def entL1 : List Value → LL
  | [] => []
  | v :: l => if v.category = 2 then some v :: none :: entL1 l else some v :: entL1 l
def entL (vs : List Value) (n : Nat) : LL := entL1 vs ++ List.replicate (n - (entL1 vs).length) none
/-- the string constant's signs -/
def strB : List Int32 := [99, 48, 44, 51, 44, 48, 59, 99, 49, 44, 50, 44, 48, 59, 99, 50, 44, 52, 44, 49, 59, 99, 51, 44, 53, 44, 49, 59, 99, 48, 44, 49, 44, 50, 59, 99, 52, 44, 54, 44, 51, 59, 99, 50, 44, 50, 44, 53, 59, 99, 48, 44, 55, 44, 55, 59, 109, 52, 44, 48, 44, 112, 117, 112, 117, 59, 109, 54, 44, 50, 44, 115, 115, 112, 117, 112, 59, 109, 55, 44, 53, 44, 117, 59, 109, 53, 44, 57, 44, 112, 112, 112, 115, 115, 115, 59, 105, 51, 59]
section MACH
variable (KK : List (Nat × Nat))
def kd (n a : Nat) : Option (Nat × Nat) := if a < n then KK[a]? else none
def pu (q : Nat) (ls : LL) (n : Nat) (f : FF) (g : GG) (r : List Value) (o : Option Value) : Option Nxt := match o with
  | some v => some (q, ls, v :: r, n, f, g)
  | none => none
def bin (q : Nat) (ls : LL) (n : Nat) (f : FF) (g : GG) (st : List Value) (F : Int32 → Int32 → Option Int32) : Option Nxt := match st with
  | .int y :: .int x :: r => match F x y with
    | some v => some (q, ls, .int v :: r, n, f, g)
    | none => none
  | _ => none
def binl (q : Nat) (ls : LL) (n : Nat) (f : FF) (g : GG) (st : List Value) (F : Int64 → Int64 → Option Value) : Option Nxt := match st with
  | .long y :: .long x :: r => match F x y with
    | some v => some (q, ls, v :: r, n, f, g)
    | none => none
  | _ => none
def cnd (c : Jvm.ClassFile.Cond) (x y : Int32) : Bool := match c with
  | .eq => decide (x = y)
  | .ne => decide (¬ x = y)
  | .lt => decide (x < y)
  | .ge => decide (y ≤ x)
  | .gt => decide (y < x)
  | .le => decide (x ≤ y)
def tsw (pc : Nat) (d lo hi : Int) (offs : Array Int) (x : Int32) : Option Nat :=
  if x.toInt < lo ∨ hi < x.toInt then some ((pc : Int) + d).toNat else match offs[(x.toInt - lo).toNat]? with
    | some o => some ((pc : Int) + o).toNat
    | none => none
def sGet (e : Ent) (q : Nat) (ls : LL) (st : List Value) (n : Nat) (f : FF) (g : GG) : Option Nxt := match st with
  | .ref a :: r => match kd KK n a with
    | some (ci, sz) => if ci < 20 ∧ ci = e.2.2.1 / 100 ∧ e.2.2.1 % 100 < sz then (if e.2.2.2.2 = 1 then some (q, ls, va_rf (g a (e.2.2.1 % 100)) :: r, n, f, g) else some (q, ls, .int (f a (e.2.2.1 % 100)) :: r, n, f, g)) else none
    | none => none
  | .float t :: r => if t = 1 ∧ e.2.2.1 = 9000 then some (q, ls, .float 2 :: r, n, f, g) else if t = 1 ∧ e.2.2.1 = 9001 then some (q, ls, .int 0 :: r, n, f, g) else none
  | _ => none
def sPut (e : Ent) (q : Nat) (ls : LL) (st : List Value) (n : Nat) (f : FF) (g : GG) : Option Nxt := match st with
  | .int v :: .ref a :: r => match kd KK n a with
    | some (ci, sz) => if ci < 20 ∧ ci = e.2.2.1 / 100 ∧ e.2.2.1 % 100 < sz ∧ e.2.2.2.2 = 0 then some (q, ls, r, n, fup f a (e.2.2.1 % 100) v, g) else none
    | none => none
  | .ref v :: .ref a :: r => match kd KK n a with
    | some (ci, sz) => if ci < 20 ∧ ci = e.2.2.1 / 100 ∧ e.2.2.1 % 100 < sz ∧ e.2.2.2.2 = 1 then some (q, ls, r, n, f, gup g a (e.2.2.1 % 100) (some v)) else none
    | none => none
  | _ => none
def sALen (S : Scr) (q : Nat) (ls : LL) (st : List Value) (n : Nat) (f : FF) (g : GG) : Option Nxt := match st with
  | .ref a :: r => match kd KK n a with
    | some (k, sz) => if 20 ≤ k then some (q, ls, .int (Int32.ofNat sz) :: r, n, f, g) else none
    | none => none
  | .float t :: r => if t = 0 then some (q, ls, .int (Int32.ofNat S.2) :: r, n, f, g) else if t = 2 then some (q, ls, .int 99 :: r, n, f, g) else none
  | _ => none
def sIald (S : Scr) (q : Nat) (ls : LL) (st : List Value) (n : Nat) (f : FF) (g : GG) : Option Nxt := match st with
  | .int i :: .ref a :: r => match kd KK n a with
    | some (k, sz) => if k = 20 ∧ ¬ (i < 0 ∨ sz ≤ i.toNatClampNeg) then some (q, ls, .int (f a i.toNatClampNeg) :: r, n, f, g) else none
    | none => none
  | .int i :: .float t :: r => if t = 0 ∧ ¬ (i < 0 ∨ S.2 ≤ i.toNatClampNeg) then some (q, ls, .int (S.1 i.toNatClampNeg) :: r, n, f, g) else none
  | _ => none
def sBald (q : Nat) (ls : LL) (st : List Value) (n : Nat) (f : FF) (g : GG) : Option Nxt := match st with
  | .int i :: .float t :: r => if t = 2 ∧ ¬ (i < 0 ∨ 99 ≤ i.toNatClampNeg) then some (q, ls, .int (strB.getD i.toNatClampNeg 0) :: r, n, f, g) else none
  | _ => none
def sIast (q : Nat) (ls : LL) (st : List Value) (n : Nat) (f : FF) (g : GG) : Option Nxt := match st with
  | .int x :: .int i :: .ref a :: r => match kd KK n a with
    | some (k, sz) => if k = 20 ∧ ¬ (i < 0 ∨ sz ≤ i.toNatClampNeg) then some (q, ls, r, n, fup f a i.toNatClampNeg x, g) else none
    | none => none
  | _ => none
def sAald (q : Nat) (ls : LL) (st : List Value) (n : Nat) (f : FF) (g : GG) : Option Nxt := match st with
  | .int i :: .ref a :: r => match kd KK n a with
    | some (k, sz) => if 20 < k ∧ ¬ (i < 0 ∨ sz ≤ i.toNatClampNeg) then some (q, ls, va_rf (g a i.toNatClampNeg) :: r, n, f, g) else none
    | none => none
  | _ => none
/-- the class of a kind of array's elements -/
def elK (k : Nat) : Nat := if k = 21 then 1 else 2
def sAast (q : Nat) (ls : LL) (st : List Value) (n : Nat) (f : FF) (g : GG) : Option Nxt := match st with
  | .ref v :: .int i :: .ref a :: r => match kd KK n a with
    | some (k, sz) => match kd KK n v with
      | some (c, _) => if (k = 21 ∨ k = 22) ∧ c = elK k ∧ ¬ (i < 0 ∨ sz ≤ i.toNatClampNeg) then some (q, ls, r, n, f, gup g a i.toNatClampNeg (some v)) else none
      | none => none
    | none => none
  | _ => none
def sNew (k sz q : Nat) (ls : LL) (r : List Value) (n : Nat) (f : FF) (g : GG) : Option Nxt :=
  if KK[n]? = some (k, sz) then some (q, ls, .ref n :: r, n + 1, f, g) else none
def sNewO (k q : Nat) (ls : LL) (r : List Value) (n : Nat) (f : FF) (g : GG) : Option Nxt := match KK[n]? with
  | some (c, _) => if c = k ∧ k < 20 then some (q, ls, .ref n :: r, n + 1, f, g) else none
  | none => none
def sNewA (k q : Nat) (ls : LL) (st : List Value) (n : Nat) (f : FF) (g : GG) : Option Nxt := match st with
  | .int x :: r => if ¬ x < 0 ∧ x.toNatClampNeg ≤ 1000 then sNew KK k x.toNatClampNeg q ls r n f g else none
  | _ => none
def sMax (q : Nat) (ls : LL) (st : List Value) (n : Nat) (f : FF) (g : GG) : Option Nxt := match st with
  | .int y :: .int x :: r => if Nat.ble (r.map Value.category).sum 8 = true then some (q, ls, .int (if x < y then y else x) :: r, n, f, g) else none
  | _ => none
/-- one instruction that neither calls nor returns -/
def stp (S : Scr) (e : Ent) (pc : Nat) (ls : LL) (st : List Value) (n : Nat) (f : FF) (g : GG) : Option Nxt :=
  match e.1 with
  | .iload k => pu (e.2.1) ls n f g st (ldI (lget ls k))
  | .iload_n k => pu (e.2.1) ls n f g st (ldI (lget ls k.val))
  | .lload k => pu (e.2.1) ls n f g st (ldL (lget ls k))
  | .lload_n k => pu (e.2.1) ls n f g st (ldL (lget ls k.val))
  | .aload k => pu (e.2.1) ls n f g st (ldA (lget ls k))
  | .aload_n k => pu (e.2.1) ls n f g st (ldA (lget ls k.val))
  | .istore k => match st with
    | .int x :: r => some (e.2.1, st1 ls k (.int x), r, n, f, g)
    | _ => none
  | .istore_n k => match st with
    | .int x :: r => some (e.2.1, st1 ls k.val (.int x), r, n, f, g)
    | _ => none
  | .lstore k => match st with
    | .long x :: r => some (e.2.1, st2 ls k (.long x), r, n, f, g)
    | _ => none
  | .lstore_n k => match st with
    | .long x :: r => some (e.2.1, st2 ls k.val (.long x), r, n, f, g)
    | _ => none
  | .astore k => match st with
    | v :: r => if isA v = true then some (e.2.1, st1 ls k v, r, n, f, g) else none
    | _ => none
  | .astore_n k => match st with
    | v :: r => if isA v = true then some (e.2.1, st1 ls k.val v, r, n, f, g) else none
    | _ => none
  | .iinc k _ => match lget ls k with
    | some (.int x) => some (e.2.1, st1 ls k (.int (x + e.2.2.2.2)), st, n, f, g)
    | _ => none
  | .iconst _ => some (e.2.1, ls, .int e.2.2.2.2 :: st, n, f, g)
  | .bipush _ => some (e.2.1, ls, .int e.2.2.2.2 :: st, n, f, g)
  | .sipush _ => some (e.2.1, ls, .int e.2.2.2.2 :: st, n, f, g)
  | .ldc _ => if e.2.2.1 = 1 then some (e.2.1, ls, .float 1 :: st, n, f, g) else some (e.2.1, ls, .int e.2.2.2.2 :: st, n, f, g)
  | .ldc_w _ => some (e.2.1, ls, .int e.2.2.2.2 :: st, n, f, g)
  | .ldc2_w _ => some (e.2.1, ls, .long e.2.2.2.2.toInt64 :: st, n, f, g)
  | .lconst _ => some (e.2.1, ls, .long e.2.2.2.2.toInt64 :: st, n, f, g)
  | .aconst_null => some (e.2.1, ls, .null :: st, n, f, g)
  | .dup => match st with
    | v :: r => if v.category = 1 then some (e.2.1, ls, v :: v :: r, n, f, g) else none
    | _ => none
  | .dup2 => match st with
    | v :: w :: r => if v.category = 1 ∧ w.category = 1 then some (e.2.1, ls, v :: w :: v :: w :: r, n, f, g) else none
    | _ => none
  | .pop => match st with
    | v :: r => if v.category = 1 then some (e.2.1, ls, r, n, f, g) else none
    | _ => none
  | .iadd => bin (e.2.1) ls n f g st (fun x y => some (x + y))
  | .isub => bin (e.2.1) ls n f g st (fun x y => some (x - y))
  | .imul => bin (e.2.1) ls n f g st (fun x y => some (x * y))
  | .idiv => bin (e.2.1) ls n f g st (fun x y => if y = 0 then none else some (x / y))
  | .irem => bin (e.2.1) ls n f g st (fun x y => if y = 0 then none else some (x - x / y * y))
  | .iand => bin (e.2.1) ls n f g st (fun x y => some (x &&& y))
  | .ior => bin (e.2.1) ls n f g st (fun x y => some (x ||| y))
  | .ixor => bin (e.2.1) ls n f g st (fun x y => some (x ^^^ y))
  | .ishl => bin (e.2.1) ls n f g st (fun x y => some (x <<< (y &&& 31)))
  | .ishr => bin (e.2.1) ls n f g st (fun x y => some (x >>> (y &&& 31)))
  | .iushr => bin (e.2.1) ls n f g st (fun x y => some (x.toUInt32 >>> (y.toUInt32 &&& Int32.toUInt32 31)).toInt32)
  | .ladd => binl (e.2.1) ls n f g st (fun x y => some (.long (x + y)))
  | .lmul => binl (e.2.1) ls n f g st (fun x y => some (.long (x * y)))
  | .ldiv => binl (e.2.1) ls n f g st (fun x y => if y = 0 then none else some (.long (x / y)))
  | .lrem => binl (e.2.1) ls n f g st (fun x y => if y = 0 then none else some (.long (x - x / y * y)))
  | .lcmp => binl (e.2.1) ls n f g st (fun x y => some (.int (lg_cmp x y)))
  | .i2l => match st with
    | .int x :: r => some (e.2.1, ls, .long x.toInt64 :: r, n, f, g)
    | _ => none
  | .l2i => match st with
    | .long x :: r => some (e.2.1, ls, .int x.toInt32 :: r, n, f, g)
    | _ => none
  | .i2c => match st with
    | .int x :: r => some (e.2.1, ls, .int (x.toUInt32 % 65536).toInt32 :: r, n, f, g)
    | _ => none
  | .goto _ => some (e.2.2.1, ls, st, n, f, g)
  | .if_icmp c _ => match st with
    | .int y :: .int x :: r => match cnd c x y with
      | true => some (e.2.2.1, ls, r, n, f, g)
      | false => some (e.2.1, ls, r, n, f, g)
    | _ => none
  | .ifCond c _ => match st with
    | .int x :: r => match cnd c x 0 with
      | true => some (e.2.2.1, ls, r, n, f, g)
      | false => some (e.2.1, ls, r, n, f, g)
    | _ => none
  | .ifnonnull _ => match st with
    | .ref _ :: r => some (e.2.2.1, ls, r, n, f, g)
    | .null :: r => some (e.2.1, ls, r, n, f, g)
    | _ => none
  | .tableswitch d lo hi offs => match st with
    | .int x :: r => match tsw pc d lo hi offs x with
      | some t => some (t, ls, r, n, f, g)
      | none => none
    | _ => none
  | .getfield _ => sGet KK e (e.2.1) ls st n f g
  | .putfield _ => sPut KK e (e.2.1) ls st n f g
  | .getstatic _ => if e.2.2.1 = 0 then some (e.2.1, ls, .int 1 :: st, n, f, g) else some (e.2.1, ls, .float 3 :: st, n, f, g)
  | .arraylength => sALen KK S (e.2.1) ls st n f g
  | .iaload => sIald KK S (e.2.1) ls st n f g
  | .baload => sBald (e.2.1) ls st n f g
  | .iastore => sIast KK (e.2.1) ls st n f g
  | .aaload => sAald KK (e.2.1) ls st n f g
  | .aastore => sAast KK (e.2.1) ls st n f g
  | .invokestatic _ => if e.2.2.1 = 9997 then sMax e.2.1 ls st n f g else none
  | .new _ => sNewO KK e.2.2.1 (e.2.1) ls st n f g
  | .newarray _ => sNewA KK 20 (e.2.1) ls st n f g
  | .anewarray _ => sNewA KK e.2.2.1 (e.2.1) ls st n f g
  | _ => none
/-- 1: a return, 2: a call, 3: Object's constructor -/
def knd (e : Ent) : Nat := match e.1 with
  | .ireturn => 1
  | .lreturn => 1
  | .areturn => 1
  | .return_ => 1
  | .invokevirtual _ => 2
  | .invokestatic _ => if e.2.2.1 = 9997 then 0 else 2
  | .invokespecial _ => if e.2.2.1 = 9999 then 3 else 2
  | _ => 0
/-- what a method of the table is: name, code, locals, what it returns, how many it takes (its object too), static, its class' number -/
abbrev Mth : Type := MethodName × ByteArray × Nat × Option FieldType × Nat × Bool × Nat
variable (MT : List Mth) (MC : List (List (Option Ent)))
def icode (y pc : Nat) : Option Ent := match MC[y]? with
  | some c => (c[pc]?).join
  | none => none
def rets (ret : Option FieldType) (e : Ent) (st : List Value) (n : Nat) (f : FF) (g : GG) : Option Res := match e.1 with
  | .ireturn => match st, ret with
    | [.int x], some ty => if narrow ty (.int x) = .int x then some (some (.int x), n, f, g) else none
    | _, _ => none
  | .lreturn => match st, ret with
    | [.long x], some .long => some (some (.long x), n, f, g)
    | _, _ => none
  | .areturn => match st, ret with
    | [.ref a], some (.object _) => some (some (.ref a), n, f, g)
    | _, _ => none
  | _ => match st, ret with
    | [], none => some (none, n, f, g)
    | _, _ => none
/-- the object of a call: of the class that it names -/
def recOk (ci n : Nat) (v : Option Value) : Bool := match v with
  | some (.ref a) => match kd KK n a with
    | some (c, _) => decide (c = ci ∧ c < 20)
    | none => false
  | some (.float t) => decide (t = 1 ∧ ci = 50)
  | _ => false
def callA (e : Ent) (mt : Mth) (st : List Value) (n : Nat) : Option (List Value × List Value) :=
  if mt.2.2.2.2.1 ≤ st.length ∧ Nat.ble ((st.drop mt.2.2.2.2.1).map Value.category).sum 8 = true ∧ (entL1 (st.take mt.2.2.2.2.1).reverse).length ≤ mt.2.2.1 then
    (match e.1 with
    | .invokestatic _ => if mt.2.2.2.2.2.1 = true then some ((st.take mt.2.2.2.2.1).reverse, st.drop mt.2.2.2.2.1) else none
    | .invokevirtual _ => if mt.2.2.2.2.2.1 = false ∧ recOk KK mt.2.2.2.2.2.2 n (st.take mt.2.2.2.2.1).reverse.head? = true then some ((st.take mt.2.2.2.2.1).reverse, st.drop mt.2.2.2.2.1) else none
    | _ => if mt.2.2.2.2.2.1 = false ∧ mt.1.name = "<init>" ∧ mt.2.2.2.1 = none ∧ recOk KK mt.2.2.2.2.2.2 n (st.take mt.2.2.2.2.1).reverse.head? = true then some ((st.take mt.2.2.2.2.1).reverse, st.drop mt.2.2.2.2.1) else none)
  else none
def dpre : Nat → Option Nat
  | 0 => none
  | d + 1 => some d
def popR (st : List Value) : Option (List Value) := match st with
  | .ref _ :: r => if Nat.ble (r.map Value.category).sum 8 = true then some r else none
  | _ => none
/-- the machine: k steps at most, calls d deep at most -/
def run (S : Scr) : Nat → Nat → Nat → Nat → LL → List Value → Nat → FF → GG → Option Res
  | 0, _, _, _, _, _, _, _, _ => none
  | k + 1, d, y, pc, ls, st, n, f, g =>
    match icode MC y pc with
    | none => none
    | some e =>
      match knd e with
      | 1 => match MT[y]? with
        | some mt => rets mt.2.2.2.1 e st n f g
        | none => none
      | 2 => match dpre d with
        | some d' => match MT[e.2.2.1]? with
          | some mt => match callA KK e mt st n with
            | some (as, rest) => match run S k d' e.2.2.1 0 (entL as mt.2.2.1) [] n f g with
              | some (v, n', f', g') => run S k d y e.2.1 ls (v.toList ++ rest) n' f' g'
              | none => none
            | none => none
          | none => none
        | none => none
      | 3 => match dpre d with
        | some _ => match popR st with
          | some r => run S k d y e.2.1 ls r n f g
          | none => none
        | none => none
      | _ => match stp KK S e pc ls st n f g with
        | some (pc', ls', st', n', f', g') => run S k d y pc' ls' st' n' f' g'
        | none => none
end MACH
end
section
/-! the small machine's steps, one by one -/
section INV
variable {KK : List (Nat × Nat)} {MT : List Mth} {MC : List (List (Option Ent))} {S : Scr}
theorem run_ret {k d y pc n : Nat} {ls : LL} {st : List Value} {f : FF} {g : GG} {e : Ent} {mt : Mth} {r : Res} (hi : icode MC y pc = some e) (hk : knd e = 1) (hm : MT[y]? = some mt) (hr : rets mt.2.2.2.1 e st n f g = some r) : run KK MT MC S (k + 1) d y pc ls st n f g = some r := by
  simp [run, hi, hk, hm, hr]
theorem run_call {k d y pc n n' : Nat} {ls : LL} {st as rest : List Value} {f f' : FF} {g g' : GG} {e : Ent} {mt : Mth} {v : Option Value} {r : Res} (hi : icode MC y pc = some e) (hk : knd e = 2) (hm : MT[e.2.2.1]? = some mt) (hc : callA KK e mt st n = some (as, rest)) (h1 : run KK MT MC S k d e.2.2.1 0 (entL as mt.2.2.1) [] n f g = some (v, n', f', g')) (h2 : run KK MT MC S k (d + 1) y e.2.1 ls (v.toList ++ rest) n' f' g' = some r) : run KK MT MC S (k + 1) (d + 1) y pc ls st n f g = some r := by
  simp [run, dpre, hi, hk, hm, hc, h1, h2]
theorem run_obj {k d y pc n a : Nat} {ls : LL} {rest : List Value} {f : FF} {g : GG} {e : Ent} {r : Res} (hi : icode MC y pc = some e) (hk : knd e = 3) (hs : Nat.ble (rest.map Value.category).sum 8 = true) (h2 : run KK MT MC S k (d + 1) y e.2.1 ls rest n f g = some r) : run KK MT MC S (k + 1) (d + 1) y pc ls (.ref a :: rest) n f g = some r := by
  have hp : popR (.ref a :: rest) = some rest := by simp [popR, hs]
  simp [run, dpre, hi, hk, hp, h2]
theorem run_stp {k d y pc n pc' n' : Nat} {ls ls' : LL} {st st' : List Value} {f f' : FF} {g g' : GG} {e : Ent} {r : Res} (hi : icode MC y pc = some e) (h0 : knd e ≠ 1 ∧ knd e ≠ 2 ∧ knd e ≠ 3) (hs : stp KK S e pc ls st n f g = some (pc', ls', st', n', f', g')) (h2 : run KK MT MC S k d y pc' ls' st' n' f' g' = some r) : run KK MT MC S (k + 1) d y pc ls st n f g = some r := by
  rw [run]
  simp only [hi]
  split
  · exact absurd ‹_› h0.1
  · exact absurd ‹_› h0.2.1
  · exact absurd ‹_› h0.2.2
  · simp only [hs, h2]
theorem run_inv {k d y pc n : Nat} {ls : LL} {st : List Value} {f : FF} {g : GG} {r : Res} (h : run KK MT MC S (k + 1) d y pc ls st n f g = some r) :
    ∃ e : Ent, icode MC y pc = some e ∧
      ((knd e = 1 ∧ ∃ mt, MT[y]? = some mt ∧ rets mt.2.2.2.1 e st n f g = some r) ∨
       (knd e = 2 ∧ ∃ (d' : Nat) (mt : Mth) (as rest : List Value) (v : Option Value) (n' : Nat) (f' : FF) (g' : GG), d = d' + 1 ∧ MT[e.2.2.1]? = some mt ∧ callA KK e mt st n = some (as, rest) ∧ run KK MT MC S k d' e.2.2.1 0 (entL as mt.2.2.1) [] n f g = some (v, n', f', g') ∧ run KK MT MC S k d y e.2.1 ls (v.toList ++ rest) n' f' g' = some r) ∨
       (knd e = 3 ∧ ∃ (d' a : Nat) (rest : List Value), d = d' + 1 ∧ st = .ref a :: rest ∧ Nat.ble (rest.map Value.category).sum 8 = true ∧ run KK MT MC S k d y e.2.1 ls rest n f g = some r) ∨
       (knd e ≠ 1 ∧ knd e ≠ 2 ∧ knd e ≠ 3 ∧ ∃ (pc' n' : Nat) (ls' : LL) (st' : List Value) (f' : FF) (g' : GG), stp KK S e pc ls st n f g = some (pc', ls', st', n', f', g') ∧ run KK MT MC S k d y pc' ls' st' n' f' g' = some r)) := by
  rw [run] at h
  cases hi : icode MC y pc with
  | none => simp only [hi] at h; cases h
  | some e =>
    refine ⟨e, rfl, ?_⟩
    simp only [hi] at h
    split at h
    · rename_i hk
      refine Or.inl ⟨hk, ?_⟩
      split at h
      · rename_i mt hm
        exact ⟨mt, hm, h⟩
      · cases h
    · rename_i hk
      refine Or.inr (Or.inl ⟨hk, ?_⟩)
      cases d with
      | zero => simp [dpre] at h
      | succ d' =>
        simp only [dpre] at h
        split at h
        · rename_i mt hm
          split at h
          · rename_i as rest hc
            split at h
            · rename_i v n' f' g' h1
              exact ⟨d', mt, as, rest, v, n', f', g', rfl, hm, hc, h1, h⟩
            · cases h
          · cases h
        · cases h
    · rename_i hk
      refine Or.inr (Or.inr (Or.inl ⟨hk, ?_⟩))
      cases d with
      | zero => simp [dpre] at h
      | succ d' =>
        simp only [dpre] at h
        split at h
        · rename_i r hp
          unfold popR at hp
          split at hp
          · rename_i a rest
            split at hp
            · rename_i hb
              cases hp
              exact ⟨d', a, _, rfl, rfl, hb, h⟩
            · cases hp
          · cases hp
        · cases h
    · rename_i h1 h2 h3
      refine Or.inr (Or.inr (Or.inr ⟨h1, h2, h3, ?_⟩))
      split at h
      · rename_i pc' ls' st' n' f' g' hs
        exact ⟨pc', n', ls', st', f', g', hs, h⟩
      · cases h
theorem run_mono : ∀ {k d y pc n : Nat} {ls : LL} {st : List Value} {f : FF} {g : GG} {r : Res}, run KK MT MC S k d y pc ls st n f g = some r → run KK MT MC S (k + 1) d y pc ls st n f g = some r := by
  intro k
  induction k with
  | zero => intro d y pc n ls st f g r h; simp [run] at h
  | succ k ih =>
    intro d y pc n ls st f g r h
    obtain ⟨e, hi, ⟨hk, mt, hm, hr⟩ | ⟨hk, d', mt, as, rest, v, n', f', g', rfl, hm, hc, h1, h2⟩ | ⟨hk, d', a, rest, rfl, rfl, hb, h2⟩ | ⟨h1, h2, h3, pc', n', ls', st', f', g', hs, h4⟩⟩ := run_inv h
    · exact run_ret hi hk hm hr
    · exact run_call hi hk hm hc (ih h1) (ih h2)
    · exact run_obj hi hk hb (ih h2)
    · exact run_stp hi ⟨h1, h2, h3⟩ hs (ih h4)
theorem run_le {k d y pc n : Nat} {ls : LL} {st : List Value} {f : FF} {g : GG} {r : Res} (h : run KK MT MC S k d y pc ls st n f g = some r) : ∀ j, run KK MT MC S (k + j) d y pc ls st n f g = some r
  | 0 => h
  | j + 1 => run_mono (run_le h j)
end INV
end
section
/-! THE TABLES of the small machine, by program out of the decode rows and the listing -/
def KKl : List (Nat × Nat) := [(7, 8), (0, 2), (20, 200), (4, 4), (6, 4), (20, 9), (20, 9), (20, 9), (2, 5), (21, 6), (1, 6), (1, 6), (1, 6), (1, 6), (1, 6), (1, 6), (1, 6), (6, 4), (20, 9), (20, 9), (20, 9), (2, 5), (21, 6), (1, 6), (1, 6), (1, 6), (1, 6), (1, 6), (1, 6), (1, 6), (2, 5), (21, 6), (1, 6), (1, 6), (1, 6), (1, 6), (1, 6), (1, 6), (1, 6), (3, 2), (22, 8), (2, 5), (21, 6), (1, 6), (1, 6), (1, 6), (1, 6), (1, 6), (1, 6), (1, 6), (2, 5), (21, 6), (1, 6), (1, 6), (1, 6), (1, 6), (1, 6), (1, 6), (1, 6), (2, 5), (21, 6), (1, 6), (1, 6), (1, 6), (1, 6), (1, 6), (1, 6), (1, 6), (2, 5), (21, 6), (1, 6), (1, 6), (1, 6), (1, 6), (1, 6), (1, 6), (1, 6), (2, 5), (21, 6), (1, 6), (1, 6), (1, 6), (1, 6), (1, 6), (1, 6), (1, 6), (2, 5), (21, 6), (1, 6), (1, 6), (1, 6), (1, 6), (1, 6), (1, 6), (1, 6), (2, 5), (21, 6), (1, 6), (1, 6), (1, 6), (1, 6), (1, 6), (1, 6), (1, 6), (2, 5), (21, 6), (1, 6), (1, 6), (1, 6), (1, 6), (1, 6), (1, 6), (1, 6), (3, 2), (22, 2), (2, 5), (21, 6), (1, 6), (1, 6), (1, 6), (1, 6), (1, 6), (1, 6), (1, 6), (2, 5), (21, 6), (1, 6), (1, 6), (1, 6), (1, 6), (1, 6), (1, 6), (1, 6), (5, 4), (20, 6), (20, 6), (20, 6), (8, 25), (20, 200), (20, 9), (20, 9), (20, 9), (20, 6), (20, 6), (20, 6), (20, 9), (20, 9), (20, 9), (20, 39), (20, 39), (20, 312), (20, 18), (20, 78)]
/-- NeedleTelegraph$Letters.init -/
abbrev m_0 : Mth := (yX0_init, cX0_init, 1, none, 1, false, 0)
def c_0 : List (Option Ent) := [some (.aload_n 0, 1, 0, 0, 0), some (.invokespecial 3, 4, 9999, 69, 0), none, none, some (.aload_n 0, 5, 0, 0, 0), some (.sipush 200, 8, 0, 0, 200), none, none, some (.newarray .int, 10, 0, 0, 0), none, some (.putfield 9, 13, 0, 70, 1), none, none, some (.return_, 14, 0, 0, 0)]
/-- NeedleTelegraph$Valley.init -/
abbrev m_1 : Mth := (yX7_init, cX7_init, 1, none, 1, false, 6)
def c_1 : List (Option Ent) := [some (.aload_n 0, 1, 0, 0, 0), some (.invokespecial 3, 4, 9999, 89, 0), none, none, some (.aload_n 0, 5, 0, 0, 0), some (.bipush 9, 7, 0, 0, 9), none, some (.newarray .int, 9, 0, 0, 0), none, some (.putfield 9, 12, 600, 90, 1), none, none, some (.aload_n 0, 13, 0, 0, 0), some (.bipush 9, 15, 0, 0, 9), none, some (.newarray .int, 17, 0, 0, 0), none, some (.putfield 15, 20, 601, 91, 1), none, none, some (.aload_n 0, 21, 0, 0, 0), some (.bipush 9, 23, 0, 0, 9), none, some (.newarray .int, 25, 0, 0, 0), none, some (.putfield 18, 28, 602, 92, 1), none, none, some (.return_, 29, 0, 0, 0)]
/-- NeedleTelegraph$Message.init -/
abbrev m_2 : Mth := (yX1_init, cX1_init, 1, none, 1, false, 1)
def c_2 : List (Option Ent) := [some (.aload_n 0, 1, 0, 0, 0), some (.invokespecial 3, 4, 9999, 115, 0), none, none, some (.return_, 5, 0, 0, 0)]
/-- NeedleTelegraph$Moment.init -/
abbrev m_3 : Mth := (yX2_init, cX2_init, 2, none, 1, false, 2)
def c_3 : List (Option Ent) := [some (.aload_n 0, 1, 0, 0, 0), some (.invokespecial 3, 4, 9999, 108, 0), none, none, some (.aload_n 0, 5, 0, 0, 0), some (.bipush 6, 7, 0, 0, 6), none, some (.anewarray 9, 10, 21, 109, 0), none, none, some (.putfield 11, 13, 200, 144, 1), none, none, some (.aload_n 0, 14, 0, 0, 0), some (.new 9, 17, 1, 109, 0), none, none, some (.dup, 18, 0, 0, 0), some (.invokespecial 17, 21, 2, 112, 1), none, none, some (.putfield 18, 24, 201, 145, 1), none, none, some (.iconst 0, 25, 0, 0, 0), some (.istore_n 1, 26, 0, 0, 0), some (.iload_n 1, 27, 0, 0, 0), some (.aload_n 0, 28, 0, 0, 0), some (.getfield 11, 31, 200, 144, 1), none, none, some (.arraylength, 32, 0, 0, 0), some (.if_icmp .ge 22, 35, 54, 0, 0), none, none, some (.aload_n 0, 36, 0, 0, 0), some (.getfield 11, 39, 200, 144, 1), none, none, some (.iload_n 1, 40, 0, 0, 0), some (.new 9, 43, 1, 109, 0), none, none, some (.dup, 44, 0, 0, 0), some (.invokespecial 17, 47, 2, 112, 1), none, none, some (.aastore, 48, 0, 0, 0), some (.iinc 1 1, 51, 0, 0, 1), none, none, some (.goto (-25), 54, 26, 0, 0), none, none, some (.return_, 55, 0, 0, 0)]
/-- NeedleTelegraph$Reader.init -/
abbrev m_4 : Mth := (yX4_init, cX4_init, 2, none, 2, false, 4)
def c_4 : List (Option Ent) := [some (.aload_n 0, 1, 0, 0, 0), some (.invokespecial 3, 4, 9999, 83, 0), none, none, some (.aload_n 0, 5, 0, 0, 0), some (.new 9, 8, 6, 84, 0), none, none, some (.dup, 9, 0, 0, 0), some (.invokespecial 11, 12, 1, 86, 1), none, none, some (.putfield 12, 15, 400, 160, 1), none, none, some (.aload_n 0, 16, 0, 0, 0), some (.new 18, 19, 2, 103, 0), none, none, some (.dup, 20, 0, 0, 0), some (.invokespecial 20, 23, 3, 105, 0), none, none, some (.putfield 21, 26, 401, 162, 1), none, none, some (.aload_n 0, 27, 0, 0, 0), some (.aload_n 1, 28, 0, 0, 0), some (.putfield 25, 31, 402, 164, 1), none, none, some (.return_, 32, 0, 0, 0)]
/-- java/lang/Math.max -/
abbrev m_5 : Mth := (yJ9_max_7cf53, cJ9_max_7cf53, 2, (some .int), 2, true, 60)
def c_5 : List (Option Ent) := [some (.iload_n 0, 1, 0, 0, 0), some (.iload_n 1, 2, 0, 0, 0), some (.if_icmp .lt 7, 5, 9, 0, 0), none, none, some (.iload_n 0, 6, 0, 0, 0), some (.goto 4, 9, 10, 0, 0), none, none, some (.iload_n 1, 10, 0, 0, 0), some (.ireturn, 11, 0, 0, 0)]
/-- NeedleTelegraph$Pile.init -/
abbrev m_6 : Mth := (yX3_init, cX3_init, 3, none, 2, false, 3)
def c_6 : List (Option Ent) := [some (.aload_n 0, 1, 0, 0, 0), some (.invokespecial 1, 4, 9999, 184, 0), none, none, some (.aload_n 0, 5, 0, 0, 0), some (.iload_n 1, 6, 0, 0, 0), some (.iconst 0, 7, 0, 0, 0), some (.invokestatic 7, 10, 9997, 185, 0), none, none, some (.anewarray 13, 13, 22, 188, 0), none, none, some (.putfield 15, 16, 300, 191, 1), none, none, some (.iconst 0, 17, 0, 0, 0), some (.istore_n 2, 18, 0, 0, 0), some (.iload_n 2, 19, 0, 0, 0), some (.aload_n 0, 20, 0, 0, 0), some (.getfield 15, 23, 300, 191, 1), none, none, some (.arraylength, 24, 0, 0, 0), some (.if_icmp .ge 22, 27, 46, 0, 0), none, none, some (.aload_n 0, 28, 0, 0, 0), some (.getfield 15, 31, 300, 191, 1), none, none, some (.iload_n 2, 32, 0, 0, 0), some (.new 13, 35, 2, 188, 0), none, none, some (.dup, 36, 0, 0, 0), some (.invokespecial 21, 39, 3, 190, 0), none, none, some (.aastore, 40, 0, 0, 0), some (.iinc 2 1, 43, 0, 0, 1), none, none, some (.goto (-25), 46, 18, 0, 0), none, none, some (.return_, 47, 0, 0, 0)]
/-- NeedleTelegraph$Seen.init -/
abbrev m_7 : Mth := (yX6_init, cX6_init, 1, none, 1, false, 5)
def c_7 : List (Option Ent) := [some (.aload_n 0, 1, 0, 0, 0), some (.invokespecial 3, 4, 9999, 203, 0), none, none, some (.aload_n 0, 5, 0, 0, 0), some (.bipush 6, 7, 0, 0, 6), none, some (.newarray .int, 9, 0, 0, 0), none, some (.putfield 9, 12, 500, 204, 1), none, none, some (.aload_n 0, 13, 0, 0, 0), some (.bipush 6, 15, 0, 0, 6), none, some (.newarray .int, 17, 0, 0, 0), none, some (.putfield 15, 20, 501, 205, 1), none, none, some (.aload_n 0, 21, 0, 0, 0), some (.bipush 6, 23, 0, 0, 6), none, some (.newarray .int, 25, 0, 0, 0), none, some (.putfield 18, 28, 502, 206, 1), none, none, some (.return_, 29, 0, 0, 0)]
/-- java/lang/String.coder -/
abbrev m_8 : Mth := (yJ0_coder_7d493, cJ0_coder_7d493, 1, (some .byte), 1, false, 50)
def c_8 : List (Option Ent) := [some (.getstatic 38, 3, 0, 226, 0), none, none, some (.ifCond .eq 10, 6, 13, 0, 0), none, none, some (.aload_n 0, 7, 0, 0, 0), some (.getfield 15, 10, 9001, 1088, 0), none, none, some (.goto 4, 13, 14, 0, 0), none, none, some (.iconst 1, 14, 0, 0, 1), some (.ireturn, 15, 0, 0, 0)]
/-- java/lang/String.length -/
abbrev m_9 : Mth := (yJ0_length_8abf5, cJ0_length_8abf5, 1, (some .int), 1, false, 50)
def c_9 : List (Option Ent) := [some (.aload_n 0, 1, 0, 0, 0), some (.getfield 9, 4, 9000, 1087, 0), none, none, some (.arraylength, 5, 0, 0, 0), some (.aload_n 0, 6, 0, 0, 0), some (.invokevirtual 335, 9, 8, 222, 0), none, none, some (.ishr, 10, 0, 0, 0), some (.ireturn, 11, 0, 0, 0)]
/-- java/lang/String.isLatin1 -/
abbrev m_10 : Mth := (yJ0_isLatin1_aae02, cJ0_isLatin1_aae02, 1, (some .boolean), 1, false, 50)
def c_10 : List (Option Ent) := [some (.getstatic 38, 3, 0, 226, 0), none, none, some (.ifCond .eq 14, 6, 17, 0, 0), none, none, some (.aload_n 0, 7, 0, 0, 0), some (.getfield 15, 10, 9001, 1088, 0), none, none, some (.ifCond .ne 7, 13, 17, 0, 0), none, none, some (.iconst 1, 14, 0, 0, 1), some (.goto 4, 17, 18, 0, 0), none, none, some (.iconst 0, 18, 0, 0, 0), some (.ireturn, 19, 0, 0, 0)]
/-- jdk/internal/util/Preconditions.checkIndex -/
abbrev m_11 : Mth := (yJ3_checkIndex_8e157, cJ3_checkIndex_8e157, 3, (some .int), 3, true, 60)
def c_11 : List (Option Ent) := [some (.iload_n 0, 1, 0, 0, 0), some (.ifCond .lt 8, 4, 9, 0, 0), none, none, some (.iload_n 0, 5, 0, 0, 0), some (.iload_n 1, 6, 0, 0, 0), some (.if_icmp .lt 10, 9, 16, 0, 0), none, none, some (.aload_n 2, 10, 0, 0, 0), some (.iload_n 0, 11, 0, 0, 0), some (.iload_n 1, 12, 0, 0, 0), some (.invokestatic 95, 15, 9998, 0, 0), none, none, some (.athrow, 16, 0, 0, 0), some (.iload_n 0, 17, 0, 0, 0), some (.ireturn, 18, 0, 0, 0)]
/-- java/lang/String.checkIndex -/
abbrev m_12 : Mth := (yJ0_checkIndex_df160, cJ0_checkIndex_df160, 2, none, 2, true, 50)
def c_12 : List (Option Ent) := [some (.iload_n 0, 1, 0, 0, 0), some (.iload_n 1, 2, 0, 0, 0), some (.getstatic 1053, 5, 1, 242, 0), none, none, some (.invokestatic 1059, 8, 11, 244, 0), none, none, some (.pop, 9, 0, 0, 0), some (.return_, 10, 0, 0, 0)]
/-- java/lang/StringLatin1.charAt -/
abbrev m_13 : Mth := (yJ1_charAt_3b067, cJ1_charAt_3b067, 2, (some .char), 2, true, 60)
def c_13 : List (Option Ent) := [some (.iload_n 1, 1, 0, 0, 0), some (.aload_n 0, 2, 0, 0, 0), some (.arraylength, 3, 0, 0, 0), some (.invokestatic 9, 6, 12, 239, 0), none, none, some (.aload_n 0, 7, 0, 0, 0), some (.iload_n 1, 8, 0, 0, 0), some (.baload, 9, 0, 0, 0), some (.sipush 255, 12, 0, 0, 255), none, none, some (.iand, 13, 0, 0, 0), some (.i2c, 14, 0, 0, 0), some (.ireturn, 15, 0, 0, 0)]
/-- java/lang/String.charAt -/
abbrev m_14 : Mth := (yJ0_charAt_5068e, cJ0_charAt_5068e, 2, (some .char), 2, false, 50)
def c_14 : List (Option Ent) := [some (.aload_n 0, 1, 0, 0, 0), some (.invokevirtual 492, 4, 10, 232, 0), none, none, some (.ifCond .eq 12, 7, 16, 0, 0), none, none, some (.aload_n 0, 8, 0, 0, 0), some (.getfield 9, 11, 9000, 1087, 0), none, none, some (.iload_n 1, 12, 0, 0, 0), some (.invokestatic 495, 15, 13, 236, 0), none, none, some (.ireturn, 16, 0, 0, 0), some (.aload_n 0, 17, 0, 0, 0), some (.getfield 9, 20, 9000, 1087, 0), none, none, some (.iload_n 1, 21, 0, 0, 0), some (.invokestatic 498, 24, 9998, 0, 0), none, none, some (.ireturn, 25, 0, 0, 0)]
/-- NeedleTelegraph.set -/
abbrev m_15 : Mth := (yX8_set, cX8_set, 3, none, 3, true, 7)
def c_15 : List (Option Ent) := [some (.iload_n 1, 1, 0, 0, 0), some (.ifCond .lt 13, 4, 14, 0, 0), none, none, some (.iload_n 1, 5, 0, 0, 0), some (.aload_n 0, 6, 0, 0, 0), some (.arraylength, 7, 0, 0, 0), some (.if_icmp .ge 7, 10, 14, 0, 0), none, none, some (.aload_n 0, 11, 0, 0, 0), some (.iload_n 1, 12, 0, 0, 0), some (.iload_n 2, 13, 0, 0, 0), some (.iastore, 14, 0, 0, 0), some (.return_, 15, 0, 0, 0)]
/-- NeedleTelegraph$Letters.add -/
abbrev m_16 : Mth := (yX0_add, cX0_add, 2, (some .boolean), 2, false, 0)
def c_16 : List (Option Ent) := [some (.aload_n 0, 1, 0, 0, 0), some (.getfield 15, 4, 1, 71, 0), none, none, some (.sipush 200, 7, 0, 0, 200), none, none, some (.if_icmp .lt 5, 10, 12, 0, 0), none, none, some (.iconst 0, 11, 0, 0, 0), some (.ireturn, 12, 0, 0, 0), some (.aload_n 0, 13, 0, 0, 0), some (.getfield 9, 16, 0, 70, 1), none, none, some (.aload_n 0, 17, 0, 0, 0), some (.getfield 15, 20, 1, 71, 0), none, none, some (.iload_n 1, 21, 0, 0, 0), some (.invokestatic 19, 24, 15, 270, 1), none, none, some (.aload_n 0, 25, 0, 0, 0), some (.dup, 26, 0, 0, 0), some (.getfield 15, 29, 1, 71, 0), none, none, some (.iconst 1, 30, 0, 0, 1), some (.iadd, 31, 0, 0, 0), some (.putfield 15, 34, 1, 71, 0), none, none, some (.iconst 1, 35, 0, 0, 1), some (.ireturn, 36, 0, 0, 0)]
/-- NeedleTelegraph$Valley.clear -/
abbrev m_17 : Mth := (yX7_clear, cX7_clear, 1, none, 1, false, 6)
def c_17 : List (Option Ent) := [some (.aload_n 0, 1, 0, 0, 0), some (.iconst 0, 2, 0, 0, 0), some (.putfield 21, 5, 603, 93, 0), none, none, some (.return_, 6, 0, 0, 0)]
/-- NeedleTelegraph$Moment.clear -/
abbrev m_18 : Mth := (yX2_clear, cX2_clear, 1, none, 1, false, 2)
def c_18 : List (Option Ent) := [some (.aload_n 0, 1, 0, 0, 0), some (.iconst 0, 2, 0, 0, 0), some (.putfield 22, 5, 202, 146, 0), none, none, some (.aload_n 0, 6, 0, 0, 0), some (.iconst 0, 7, 0, 0, 0), some (.putfield 26, 10, 203, 147, 0), none, none, some (.aload_n 0, 11, 0, 0, 0), some (.iconst 0, 12, 0, 0, 0), some (.putfield 29, 15, 204, 148, 0), none, none, some (.return_, 16, 0, 0, 0)]
/-- NeedleTelegraph$Letters.length -/
abbrev m_19 : Mth := (yX0_length, cX0_length, 1, (some .int), 1, false, 0)
def c_19 : List (Option Ent) := [some (.aload_n 0, 1, 0, 0, 0), some (.getfield 15, 4, 1, 71, 0), none, none, some (.ireturn, 5, 0, 0, 0)]
/-- NeedleTelegraph$Letters.get -/
abbrev m_20 : Mth := (yX0_get, cX0_get, 2, (some .int), 2, false, 0)
def c_20 : List (Option Ent) := [some (.iload_n 1, 1, 0, 0, 0), some (.ifCond .lt 29, 4, 30, 0, 0), none, none, some (.iload_n 1, 5, 0, 0, 0), some (.aload_n 0, 6, 0, 0, 0), some (.getfield 15, 9, 1, 71, 0), none, none, some (.if_icmp .ge 21, 12, 30, 0, 0), none, none, some (.iload_n 1, 13, 0, 0, 0), some (.aload_n 0, 14, 0, 0, 0), some (.getfield 9, 17, 0, 70, 1), none, none, some (.arraylength, 18, 0, 0, 0), some (.if_icmp .ge 12, 21, 30, 0, 0), none, none, some (.aload_n 0, 22, 0, 0, 0), some (.getfield 9, 25, 0, 70, 1), none, none, some (.iload_n 1, 26, 0, 0, 0), some (.iaload, 27, 0, 0, 0), some (.goto 4, 30, 31, 0, 0), none, none, some (.iconst 0, 31, 0, 0, 0), some (.ireturn, 32, 0, 0, 0)]
/-- NeedleTelegraph$Reader.takes -/
abbrev m_21 : Mth := (yX4_takes, cX4_takes, 2, (some .boolean), 2, false, 4)
def c_21 : List (Option Ent) := [some (.aload_n 0, 1, 0, 0, 0), some (.getfield 25, 4, 402, 164, 1), none, none, some (.aload_n 0, 5, 0, 0, 0), some (.getfield 33, 8, 403, 165, 0), none, none, some (.invokevirtual 81, 11, 20, 297, 0), none, none, some (.iload_n 1, 12, 0, 0, 0), some (.if_icmp .eq 5, 15, 17, 0, 0), none, none, some (.iconst 0, 16, 0, 0, 0), some (.ireturn, 17, 0, 0, 0), some (.aload_n 0, 18, 0, 0, 0), some (.dup, 19, 0, 0, 0), some (.getfield 33, 22, 403, 165, 0), none, none, some (.iconst 1, 23, 0, 0, 1), some (.iadd, 24, 0, 0, 0), some (.putfield 33, 27, 403, 165, 0), none, none, some (.iconst 1, 28, 0, 0, 1), some (.ireturn, 29, 0, 0, 0)]
/-- NeedleTelegraph.isBetween -/
abbrev m_22 : Mth := (yX8_isBetween, cX8_isBetween, 3, (some .boolean), 3, true, 7)
def c_22 : List (Option Ent) := [some (.iload_n 0, 1, 0, 0, 0), some (.iload_n 1, 2, 0, 0, 0), some (.if_icmp .lt 12, 5, 14, 0, 0), none, none, some (.iload_n 0, 6, 0, 0, 0), some (.iload_n 2, 7, 0, 0, 0), some (.if_icmp .gt 7, 10, 14, 0, 0), none, none, some (.iconst 1, 11, 0, 0, 1), some (.goto 4, 14, 15, 0, 0), none, none, some (.iconst 0, 15, 0, 0, 0), some (.ireturn, 16, 0, 0, 0)]
/-- NeedleTelegraph$Reader.figure -/
abbrev m_23 : Mth := (yX4_figure, cX4_figure, 2, (some .int), 1, false, 4)
def c_23 : List (Option Ent) := [some (.aload_n 0, 1, 0, 0, 0), some (.getfield 25, 4, 402, 164, 1), none, none, some (.aload_n 0, 5, 0, 0, 0), some (.getfield 33, 8, 403, 165, 0), none, none, some (.invokevirtual 81, 11, 20, 297, 0), none, none, some (.istore_n 1, 12, 0, 0, 0), some (.iload_n 1, 13, 0, 0, 0), some (.bipush 48, 15, 0, 0, 48), none, some (.bipush 57, 17, 0, 0, 57), none, some (.invokestatic 88, 20, 22, 313, 1), none, none, some (.ifCond .ne 5, 23, 25, 0, 0), none, none, some (.iconst (-1), 24, 0, 0, (-1)), some (.ireturn, 25, 0, 0, 0), some (.aload_n 0, 26, 0, 0, 0), some (.dup, 27, 0, 0, 0), some (.getfield 33, 30, 403, 165, 0), none, none, some (.iconst 1, 31, 0, 0, 1), some (.iadd, 32, 0, 0, 0), some (.putfield 33, 35, 403, 165, 0), none, none, some (.iload_n 1, 36, 0, 0, 0), some (.bipush 48, 38, 0, 0, 48), none, some (.isub, 39, 0, 0, 0), some (.ireturn, 40, 0, 0, 0)]
/-- NeedleTelegraph$Reader.number -/
abbrev m_24 : Mth := (yX4_number, cX4_number, 3, (some .int), 1, false, 4)
def c_24 : List (Option Ent) := [some (.aload_n 0, 1, 0, 0, 0), some (.invokevirtual 85, 4, 23, 309, 0), none, none, some (.istore_n 1, 5, 0, 0, 0), some (.iload_n 1, 6, 0, 0, 0), some (.ifCond .ge 5, 9, 11, 0, 0), none, none, some (.iconst (-1), 10, 0, 0, (-1)), some (.ireturn, 11, 0, 0, 0), some (.aload_n 0, 12, 0, 0, 0), some (.invokevirtual 85, 15, 23, 309, 0), none, none, some (.istore_n 2, 16, 0, 0, 0), some (.iload_n 2, 17, 0, 0, 0), some (.ifCond .ge 7, 20, 24, 0, 0), none, none, some (.iload_n 1, 21, 0, 0, 0), some (.goto 9, 24, 30, 0, 0), none, none, some (.iload_n 1, 25, 0, 0, 0), some (.bipush 10, 27, 0, 0, 10), none, some (.imul, 28, 0, 0, 0), some (.iload_n 2, 29, 0, 0, 0), some (.iadd, 30, 0, 0, 0), some (.ireturn, 31, 0, 0, 0)]
/-- NeedleTelegraph$Valley.add -/
abbrev m_25 : Mth := (yX7_add, cX7_add, 4, (some .boolean), 4, false, 6)
def c_25 : List (Option Ent) := [some (.aload_n 0, 1, 0, 0, 0), some (.getfield 21, 4, 603, 93, 0), none, none, some (.bipush 9, 6, 0, 0, 9), none, some (.if_icmp .ge 34, 9, 40, 0, 0), none, none, some (.iload_n 1, 10, 0, 0, 0), some (.iconst 0, 11, 0, 0, 0), some (.iconst 4, 12, 0, 0, 4), some (.invokestatic 33, 15, 22, 320, 1), none, none, some (.ifCond .eq 25, 18, 40, 0, 0), none, none, some (.iload_n 2, 19, 0, 0, 0), some (.iconst 1, 20, 0, 0, 1), some (.bipush 20, 22, 0, 0, 20), none, some (.invokestatic 33, 25, 22, 320, 1), none, none, some (.ifCond .eq 15, 28, 40, 0, 0), none, none, some (.iload_n 3, 29, 0, 0, 0), some (.iconst 0, 30, 0, 0, 0), some (.aload_n 0, 31, 0, 0, 0), some (.getfield 21, 34, 603, 93, 0), none, none, some (.invokestatic 33, 37, 22, 320, 1), none, none, some (.ifCond .ne 5, 40, 42, 0, 0), none, none, some (.iconst 0, 41, 0, 0, 0), some (.ireturn, 42, 0, 0, 0), some (.aload_n 0, 43, 0, 0, 0), some (.getfield 9, 46, 600, 90, 1), none, none, some (.aload_n 0, 47, 0, 0, 0), some (.getfield 21, 50, 603, 93, 0), none, none, some (.iload_n 1, 51, 0, 0, 0), some (.invokestatic 37, 54, 15, 321, 1), none, none, some (.aload_n 0, 55, 0, 0, 0), some (.getfield 15, 58, 601, 91, 1), none, none, some (.aload_n 0, 59, 0, 0, 0), some (.getfield 21, 62, 603, 93, 0), none, none, some (.iload_n 2, 63, 0, 0, 0), some (.invokestatic 37, 66, 15, 321, 1), none, none, some (.aload_n 0, 67, 0, 0, 0), some (.getfield 18, 70, 602, 92, 1), none, none, some (.aload_n 0, 71, 0, 0, 0), some (.getfield 21, 74, 603, 93, 0), none, none, some (.iload_n 3, 75, 0, 0, 0), some (.invokestatic 37, 78, 15, 321, 1), none, none, some (.aload_n 0, 79, 0, 0, 0), some (.dup, 80, 0, 0, 0), some (.getfield 21, 83, 603, 93, 0), none, none, some (.iconst 1, 84, 0, 0, 1), some (.iadd, 85, 0, 0, 0), some (.putfield 21, 88, 603, 93, 0), none, none, some (.iconst 1, 89, 0, 0, 1), some (.ireturn, 90, 0, 0, 0)]
/-- NeedleTelegraph$Reader.readChair -/
abbrev m_26 : Mth := (yX4_readChair, cX4_readChair, 4, (some .boolean), 1, false, 4)
def c_26 : List (Option Ent) := [some (.aload_n 0, 1, 0, 0, 0), some (.invokevirtual 60, 4, 24, 305, 0), none, none, some (.istore_n 1, 5, 0, 0, 0), some (.iload_n 1, 6, 0, 0, 0), some (.ifCond .lt 12, 9, 18, 0, 0), none, none, some (.aload_n 0, 10, 0, 0, 0), some (.bipush 44, 12, 0, 0, 44), none, some (.invokevirtual 47, 15, 21, 293, 0), none, none, some (.ifCond .ne 5, 18, 20, 0, 0), none, none, some (.iconst 0, 19, 0, 0, 0), some (.ireturn, 20, 0, 0, 0), some (.aload_n 0, 21, 0, 0, 0), some (.invokevirtual 60, 24, 24, 305, 0), none, none, some (.istore_n 2, 25, 0, 0, 0), some (.iload_n 2, 26, 0, 0, 0), some (.ifCond .lt 12, 29, 38, 0, 0), none, none, some (.aload_n 0, 30, 0, 0, 0), some (.bipush 44, 32, 0, 0, 44), none, some (.invokevirtual 47, 35, 21, 293, 0), none, none, some (.ifCond .ne 5, 38, 40, 0, 0), none, none, some (.iconst 0, 39, 0, 0, 0), some (.ireturn, 40, 0, 0, 0), some (.aload_n 0, 41, 0, 0, 0), some (.invokevirtual 60, 44, 24, 305, 0), none, none, some (.istore_n 3, 45, 0, 0, 0), some (.iload_n 3, 46, 0, 0, 0), some (.ifCond .lt 29, 49, 75, 0, 0), none, none, some (.aload_n 0, 50, 0, 0, 0), some (.bipush 59, 52, 0, 0, 59), none, some (.invokevirtual 47, 55, 21, 293, 0), none, none, some (.ifCond .eq 20, 58, 75, 0, 0), none, none, some (.aload_n 0, 59, 0, 0, 0), some (.getfield 12, 62, 400, 160, 1), none, none, some (.iload_n 1, 63, 0, 0, 0), some (.iload_n 2, 64, 0, 0, 0), some (.iload_n 3, 65, 0, 0, 0), some (.invokevirtual 63, 68, 25, 316, 0), none, none, some (.ifCond .eq 7, 71, 75, 0, 0), none, none, some (.iconst 1, 72, 0, 0, 1), some (.goto 4, 75, 76, 0, 0), none, none, some (.iconst 0, 76, 0, 0, 0), some (.ireturn, 77, 0, 0, 0)]
/-- NeedleTelegraph$Rows.with -/
abbrev m_27 : Mth := (yX5_with, cX5_with, 2, (some .int), 2, true, 60)
def c_27 : List (Option Ent) := [some (.iload_n 0, 1, 0, 0, 0), some (.iconst 4, 2, 0, 0, 4), some (.imul, 3, 0, 0, 0), some (.iload_n 1, 4, 0, 0, 0), some (.iadd, 5, 0, 0, 0), some (.ireturn, 6, 0, 0, 0)]
/-- NeedleTelegraph$Reader.row -/
abbrev m_28 : Mth := (yX4_row, cX4_row, 4, (some .int), 1, false, 4)
def c_28 : List (Option Ent) := [some (.iconst 0, 1, 0, 0, 0), some (.istore_n 1, 2, 0, 0, 0), some (.iconst 0, 3, 0, 0, 0), some (.istore_n 2, 4, 0, 0, 0), some (.iload_n 2, 5, 0, 0, 0), some (.bipush 8, 7, 0, 0, 8), none, some (.if_icmp .ge 62, 10, 69, 0, 0), none, none, some (.aload_n 0, 11, 0, 0, 0), some (.bipush 112, 13, 0, 0, 112), none, some (.invokevirtual 47, 16, 21, 293, 0), none, none, some (.ifCond .eq 7, 19, 23, 0, 0), none, none, some (.iconst 1, 20, 0, 0, 1), some (.goto 30, 23, 50, 0, 0), none, none, some (.aload_n 0, 24, 0, 0, 0), some (.bipush 117, 26, 0, 0, 117), none, some (.invokevirtual 47, 29, 21, 293, 0), none, none, some (.ifCond .eq 7, 32, 36, 0, 0), none, none, some (.iconst 2, 33, 0, 0, 2), some (.goto 17, 36, 50, 0, 0), none, none, some (.aload_n 0, 37, 0, 0, 0), some (.bipush 115, 39, 0, 0, 115), none, some (.invokevirtual 47, 42, 21, 293, 0), none, none, some (.ifCond .eq 7, 45, 49, 0, 0), none, none, some (.iconst 3, 46, 0, 0, 3), some (.goto 4, 49, 50, 0, 0), none, none, some (.iconst 0, 50, 0, 0, 0), some (.istore_n 3, 51, 0, 0, 0), some (.iload_n 3, 52, 0, 0, 0), some (.ifCond .ne 5, 55, 57, 0, 0), none, none, some (.iload_n 1, 56, 0, 0, 0), some (.ireturn, 57, 0, 0, 0), some (.iload_n 1, 58, 0, 0, 0), some (.iload_n 3, 59, 0, 0, 0), some (.invokestatic 91, 62, 27, 330, 0), none, none, some (.istore_n 1, 63, 0, 0, 0), some (.iinc 2 1, 66, 0, 0, 1), none, none, some (.goto (-62), 69, 4, 0, 0), none, none, some (.iload_n 1, 70, 0, 0, 0), some (.ireturn, 71, 0, 0, 0)]
/-- NeedleTelegraph$Valley.has -/
abbrev m_29 : Mth := (yX7_has, cX7_has, 2, (some .boolean), 2, false, 6)
def c_29 : List (Option Ent) := [some (.iload_n 1, 1, 0, 0, 0), some (.ifCond .lt 15, 4, 16, 0, 0), none, none, some (.iload_n 1, 5, 0, 0, 0), some (.aload_n 0, 6, 0, 0, 0), some (.getfield 21, 9, 603, 93, 0), none, none, some (.if_icmp .ge 7, 12, 16, 0, 0), none, none, some (.iconst 1, 13, 0, 0, 1), some (.goto 4, 16, 17, 0, 0), none, none, some (.iconst 0, 17, 0, 0, 0), some (.ireturn, 18, 0, 0, 0)]
/-- NeedleTelegraph$Moment.get -/
abbrev m_30 : Mth := (yX2_get, cX2_get, 3, (some (.object "NeedleTelegraph$Message")), 2, false, 2)
def c_30 : List (Option Ent) := [some (.iload_n 1, 1, 0, 0, 0), some (.ifCond .lt 21, 4, 22, 0, 0), none, none, some (.iload_n 1, 5, 0, 0, 0), some (.aload_n 0, 6, 0, 0, 0), some (.getfield 11, 9, 200, 144, 1), none, none, some (.arraylength, 10, 0, 0, 0), some (.if_icmp .ge 12, 13, 22, 0, 0), none, none, some (.aload_n 0, 14, 0, 0, 0), some (.getfield 11, 17, 200, 144, 1), none, none, some (.iload_n 1, 18, 0, 0, 0), some (.aaload, 19, 0, 0, 0), some (.goto 4, 22, 23, 0, 0), none, none, some (.aconst_null, 23, 0, 0, 0), some (.astore_n 2, 24, 0, 0, 0), some (.aload_n 2, 25, 0, 0, 0), some (.ifnonnull 10, 28, 35, 0, 0), none, none, some (.aload_n 0, 29, 0, 0, 0), some (.getfield 18, 32, 201, 145, 1), none, none, some (.goto 4, 35, 36, 0, 0), none, none, some (.aload_n 2, 36, 0, 0, 0), some (.areturn, 37, 0, 0, 0)]
/-- NeedleTelegraph$Message.startAs -/
abbrev m_31 : Mth := (yX1_startAs, cX1_startAs, 4, none, 4, false, 1)
def c_31 : List (Option Ent) := [some (.aload_n 0, 1, 0, 0, 0), some (.iload_n 2, 2, 0, 0, 0), some (.putfield 9, 5, 100, 116, 0), none, none, some (.aload_n 0, 6, 0, 0, 0), some (.iconst 0, 7, 0, 0, 0), some (.putfield 15, 10, 101, 118, 0), none, none, some (.aload_n 0, 11, 0, 0, 0), some (.iload_n 1, 12, 0, 0, 0), some (.putfield 18, 15, 102, 121, 0), none, none, some (.aload_n 0, 16, 0, 0, 0), some (.iload_n 3, 17, 0, 0, 0), some (.putfield 21, 20, 103, 124, 0), none, none, some (.aload_n 0, 21, 0, 0, 0), some (.iconst 0, 22, 0, 0, 0), some (.putfield 24, 25, 104, 127, 0), none, none, some (.aload_n 0, 26, 0, 0, 0), some (.iconst 0, 27, 0, 0, 0), some (.putfield 27, 30, 105, 129, 0), none, none, some (.return_, 31, 0, 0, 0)]
/-- NeedleTelegraph$Moment.add -/
abbrev m_32 : Mth := (yX2_add, cX2_add, 4, (some .boolean), 4, false, 2)
def c_32 : List (Option Ent) := [some (.aload_n 0, 1, 0, 0, 0), some (.getfield 22, 4, 202, 146, 0), none, none, some (.bipush 6, 6, 0, 0, 6), none, some (.if_icmp .lt 5, 9, 11, 0, 0), none, none, some (.iconst 0, 10, 0, 0, 0), some (.ireturn, 11, 0, 0, 0), some (.aload_n 0, 12, 0, 0, 0), some (.aload_n 0, 13, 0, 0, 0), some (.getfield 22, 16, 202, 146, 0), none, none, some (.invokevirtual 32, 19, 30, 341, 0), none, none, some (.iload_n 1, 20, 0, 0, 0), some (.iload_n 2, 21, 0, 0, 0), some (.iload_n 3, 22, 0, 0, 0), some (.invokevirtual 40, 25, 31, 345, 0), none, none, some (.aload_n 0, 26, 0, 0, 0), some (.dup, 27, 0, 0, 0), some (.getfield 22, 30, 202, 146, 0), none, none, some (.iconst 1, 31, 0, 0, 1), some (.iadd, 32, 0, 0, 0), some (.putfield 22, 35, 202, 146, 0), none, none, some (.iconst 1, 36, 0, 0, 1), some (.ireturn, 37, 0, 0, 0)]
/-- NeedleTelegraph$Reader.readMessage -/
abbrev m_33 : Mth := (yX4_readMessage, cX4_readMessage, 4, (some .boolean), 1, false, 4)
def c_33 : List (Option Ent) := [some (.aload_n 0, 1, 0, 0, 0), some (.invokevirtual 60, 4, 24, 305, 0), none, none, some (.istore_n 1, 5, 0, 0, 0), some (.iload_n 1, 6, 0, 0, 0), some (.ifCond .lt 12, 9, 18, 0, 0), none, none, some (.aload_n 0, 10, 0, 0, 0), some (.bipush 44, 12, 0, 0, 44), none, some (.invokevirtual 47, 15, 21, 293, 0), none, none, some (.ifCond .ne 5, 18, 20, 0, 0), none, none, some (.iconst 0, 19, 0, 0, 0), some (.ireturn, 20, 0, 0, 0), some (.aload_n 0, 21, 0, 0, 0), some (.invokevirtual 60, 24, 24, 305, 0), none, none, some (.istore_n 2, 25, 0, 0, 0), some (.iload_n 2, 26, 0, 0, 0), some (.ifCond .lt 12, 29, 38, 0, 0), none, none, some (.aload_n 0, 30, 0, 0, 0), some (.bipush 44, 32, 0, 0, 44), none, some (.invokevirtual 47, 35, 21, 293, 0), none, none, some (.ifCond .ne 5, 38, 40, 0, 0), none, none, some (.iconst 0, 39, 0, 0, 0), some (.ireturn, 40, 0, 0, 0), some (.aload_n 0, 41, 0, 0, 0), some (.invokevirtual 67, 44, 28, 326, 0), none, none, some (.istore_n 3, 45, 0, 0, 0), some (.iload_n 3, 46, 0, 0, 0), some (.ifCond .le 40, 49, 86, 0, 0), none, none, some (.aload_n 0, 50, 0, 0, 0), some (.bipush 59, 52, 0, 0, 59), none, some (.invokevirtual 47, 55, 21, 293, 0), none, none, some (.ifCond .eq 31, 58, 86, 0, 0), none, none, some (.aload_n 0, 59, 0, 0, 0), some (.getfield 12, 62, 400, 160, 1), none, none, some (.iload_n 1, 63, 0, 0, 0), some (.invokevirtual 70, 66, 29, 333, 0), none, none, some (.ifCond .eq 20, 69, 86, 0, 0), none, none, some (.aload_n 0, 70, 0, 0, 0), some (.getfield 21, 73, 401, 162, 1), none, none, some (.iload_n 1, 74, 0, 0, 0), some (.iload_n 2, 75, 0, 0, 0), some (.iload_n 3, 76, 0, 0, 0), some (.invokevirtual 73, 79, 32, 337, 0), none, none, some (.ifCond .eq 7, 82, 86, 0, 0), none, none, some (.iconst 1, 83, 0, 0, 1), some (.goto 4, 86, 87, 0, 0), none, none, some (.iconst 0, 87, 0, 0, 0), some (.ireturn, 88, 0, 0, 0)]
/-- NeedleTelegraph.isIn -/
abbrev m_34 : Mth := (yX8_isIn, cX8_isIn, 2, (some .boolean), 2, true, 7)
def c_34 : List (Option Ent) := [some (.iload_n 0, 1, 0, 0, 0), some (.iload_n 1, 2, 0, 0, 0), some (.ishr, 3, 0, 0, 0), some (.iconst 1, 4, 0, 0, 1), some (.iand, 5, 0, 0, 0), some (.iconst 1, 6, 0, 0, 1), some (.if_icmp .ne 7, 9, 13, 0, 0), none, none, some (.iconst 1, 10, 0, 0, 1), some (.goto 4, 13, 14, 0, 0), none, none, some (.iconst 0, 14, 0, 0, 0), some (.ireturn, 15, 0, 0, 0)]
/-- NeedleTelegraph$Moment.isIndoors -/
abbrev m_35 : Mth := (yX2_isIndoors, cX2_isIndoors, 2, (some .boolean), 2, false, 2)
def c_35 : List (Option Ent) := [some (.aload_n 0, 1, 0, 0, 0), some (.getfield 29, 4, 204, 148, 0), none, none, some (.iload_n 1, 5, 0, 0, 0), some (.invokestatic 44, 8, 34, 357, 1), none, none, some (.ireturn, 9, 0, 0, 0)]
/-- NeedleTelegraph$Moment.goInOrOut -/
abbrev m_36 : Mth := (yX2_goInOrOut, cX2_goInOrOut, 2, none, 2, false, 2)
def c_36 : List (Option Ent) := [some (.aload_n 0, 1, 0, 0, 0), some (.dup, 2, 0, 0, 0), some (.getfield 29, 5, 204, 148, 0), none, none, some (.iconst 1, 6, 0, 0, 1), some (.iload_n 1, 7, 0, 0, 0), some (.ishl, 8, 0, 0, 0), some (.ixor, 9, 0, 0, 0), some (.putfield 29, 12, 204, 148, 0), none, none, some (.return_, 13, 0, 0, 0)]
/-- NeedleTelegraph$Reader.readIndoors -/
abbrev m_37 : Mth := (yX4_readIndoors, cX4_readIndoors, 2, (some .boolean), 1, false, 4)
def c_37 : List (Option Ent) := [some (.aload_n 0, 1, 0, 0, 0), some (.invokevirtual 60, 4, 24, 305, 0), none, none, some (.istore_n 1, 5, 0, 0, 0), some (.iload_n 1, 6, 0, 0, 0), some (.ifCond .lt 23, 9, 29, 0, 0), none, none, some (.aload_n 0, 10, 0, 0, 0), some (.bipush 59, 12, 0, 0, 59), none, some (.invokevirtual 47, 15, 21, 293, 0), none, none, some (.ifCond .eq 14, 18, 29, 0, 0), none, none, some (.aload_n 0, 19, 0, 0, 0), some (.getfield 12, 22, 400, 160, 1), none, none, some (.iload_n 1, 23, 0, 0, 0), some (.invokevirtual 70, 26, 29, 333, 0), none, none, some (.ifCond .ne 5, 29, 31, 0, 0), none, none, some (.iconst 0, 30, 0, 0, 0), some (.ireturn, 31, 0, 0, 0), some (.aload_n 0, 32, 0, 0, 0), some (.getfield 21, 35, 401, 162, 1), none, none, some (.iload_n 1, 36, 0, 0, 0), some (.invokevirtual 74, 39, 35, 353, 0), none, none, some (.ifCond .ne 11, 42, 50, 0, 0), none, none, some (.aload_n 0, 43, 0, 0, 0), some (.getfield 21, 46, 401, 162, 1), none, none, some (.iload_n 1, 47, 0, 0, 0), some (.invokevirtual 77, 50, 36, 360, 0), none, none, some (.iconst 1, 51, 0, 0, 1), some (.ireturn, 52, 0, 0, 0)]
/-- NeedleTelegraph$Reader.readItem -/
abbrev m_38 : Mth := (yX4_readItem, cX4_readItem, 1, (some .boolean), 1, false, 4)
def c_38 : List (Option Ent) := [some (.aload_n 0, 1, 0, 0, 0), some (.bipush 99, 3, 0, 0, 99), none, some (.invokevirtual 47, 6, 21, 293, 0), none, none, some (.ifCond .eq 8, 9, 14, 0, 0), none, none, some (.aload_n 0, 10, 0, 0, 0), some (.invokevirtual 51, 13, 26, 301, 0), none, none, some (.ireturn, 14, 0, 0, 0), some (.aload_n 0, 15, 0, 0, 0), some (.bipush 109, 17, 0, 0, 109), none, some (.invokevirtual 47, 20, 21, 293, 0), none, none, some (.ifCond .eq 8, 23, 28, 0, 0), none, none, some (.aload_n 0, 24, 0, 0, 0), some (.invokevirtual 54, 27, 33, 322, 0), none, none, some (.ireturn, 28, 0, 0, 0), some (.aload_n 0, 29, 0, 0, 0), some (.bipush 105, 31, 0, 0, 105), none, some (.invokevirtual 47, 34, 21, 293, 0), none, none, some (.ifCond .eq 8, 37, 42, 0, 0), none, none, some (.aload_n 0, 38, 0, 0, 0), some (.invokevirtual 57, 41, 37, 349, 0), none, none, some (.ireturn, 42, 0, 0, 0), some (.iconst 0, 43, 0, 0, 0), some (.ireturn, 44, 0, 0, 0)]
/-- NeedleTelegraph$Reader.read -/
abbrev m_39 : Mth := (yX4_read, cX4_read, 3, (some .int), 1, false, 4)
def c_39 : List (Option Ent) := [some (.aload_n 0, 1, 0, 0, 0), some (.getfield 12, 4, 400, 160, 1), none, none, some (.invokevirtual 29, 7, 17, 277, 0), none, none, some (.aload_n 0, 8, 0, 0, 0), some (.getfield 21, 11, 401, 162, 1), none, none, some (.invokevirtual 32, 14, 18, 281, 0), none, none, some (.aload_n 0, 15, 0, 0, 0), some (.iconst 0, 16, 0, 0, 0), some (.putfield 33, 19, 403, 165, 0), none, none, some (.iconst 0, 20, 0, 0, 0), some (.istore_n 1, 21, 0, 0, 0), some (.iload_n 1, 22, 0, 0, 0), some (.sipush 200, 25, 0, 0, 200), none, none, some (.if_icmp .ge 37, 28, 62, 0, 0), none, none, some (.aload_n 0, 29, 0, 0, 0), some (.getfield 33, 32, 403, 165, 0), none, none, some (.aload_n 0, 33, 0, 0, 0), some (.getfield 25, 36, 402, 164, 1), none, none, some (.invokevirtual 37, 39, 19, 285, 0), none, none, some (.if_icmp .ge 23, 42, 62, 0, 0), none, none, some (.aload_n 0, 43, 0, 0, 0), some (.getfield 33, 46, 403, 165, 0), none, none, some (.istore_n 2, 47, 0, 0, 0), some (.aload_n 0, 48, 0, 0, 0), some (.invokevirtual 43, 51, 38, 289, 0), none, none, some (.ifCond .ne 5, 54, 56, 0, 0), none, none, some (.iload_n 2, 55, 0, 0, 0), some (.ireturn, 56, 0, 0, 0), some (.iinc 1 1, 59, 0, 0, 1), none, none, some (.goto (-38), 62, 21, 0, 0), none, none, some (.bipush (-4), 64, 0, 0, (-4)), none, some (.ireturn, 65, 0, 0, 0)]
/-- NeedleTelegraph.at -/
abbrev m_40 : Mth := (yX8_at, cX8_at, 2, (some .int), 2, true, 7)
def c_40 : List (Option Ent) := [some (.iload_n 1, 1, 0, 0, 0), some (.ifCond .lt 15, 4, 16, 0, 0), none, none, some (.iload_n 1, 5, 0, 0, 0), some (.aload_n 0, 6, 0, 0, 0), some (.arraylength, 7, 0, 0, 0), some (.if_icmp .ge 9, 10, 16, 0, 0), none, none, some (.aload_n 0, 11, 0, 0, 0), some (.iload_n 1, 12, 0, 0, 0), some (.iaload, 13, 0, 0, 0), some (.goto 4, 16, 17, 0, 0), none, none, some (.iconst 0, 17, 0, 0, 0), some (.ireturn, 18, 0, 0, 0)]
/-- NeedleTelegraph$Valley.kindOf -/
abbrev m_41 : Mth := (yX7_kindOf, cX7_kindOf, 2, (some .int), 2, false, 6)
def c_41 : List (Option Ent) := [some (.aload_n 0, 1, 0, 0, 0), some (.getfield 9, 4, 600, 90, 1), none, none, some (.iload_n 1, 5, 0, 0, 0), some (.invokestatic 25, 8, 40, 377, 1), none, none, some (.ireturn, 9, 0, 0, 0)]
/-- NeedleTelegraph$Valley.paceOf -/
abbrev m_42 : Mth := (yX7_paceOf, cX7_paceOf, 2, (some .int), 2, false, 6)
def c_42 : List (Option Ent) := [some (.aload_n 0, 1, 0, 0, 0), some (.getfield 15, 4, 601, 91, 1), none, none, some (.iload_n 1, 5, 0, 0, 0), some (.invokestatic 25, 8, 40, 377, 1), none, none, some (.ireturn, 9, 0, 0, 0)]
/-- NeedleTelegraph$Valley.nextOf -/
abbrev m_43 : Mth := (yX7_nextOf, cX7_nextOf, 2, (some .int), 2, false, 6)
def c_43 : List (Option Ent) := [some (.aload_n 0, 1, 0, 0, 0), some (.getfield 18, 4, 602, 92, 1), none, none, some (.iload_n 1, 5, 0, 0, 0), some (.invokestatic 25, 8, 40, 377, 1), none, none, some (.ireturn, 9, 0, 0, 0)]
/-- NeedleTelegraph$Valley.copy -/
abbrev m_44 : Mth := (yX7_copy, cX7_copy, 3, none, 2, false, 6)
def c_44 : List (Option Ent) := [some (.aload_n 0, 1, 0, 0, 0), some (.invokevirtual 41, 4, 17, 372, 0), none, none, some (.iconst 0, 5, 0, 0, 0), some (.istore_n 2, 6, 0, 0, 0), some (.iload_n 2, 7, 0, 0, 0), some (.aload_n 1, 8, 0, 0, 0), some (.getfield 21, 11, 603, 93, 0), none, none, some (.if_icmp .ge 29, 14, 40, 0, 0), none, none, some (.aload_n 0, 15, 0, 0, 0), some (.aload_n 1, 16, 0, 0, 0), some (.iload_n 2, 17, 0, 0, 0), some (.invokevirtual 44, 20, 41, 373, 0), none, none, some (.aload_n 1, 21, 0, 0, 0), some (.iload_n 2, 22, 0, 0, 0), some (.invokevirtual 47, 25, 42, 380, 0), none, none, some (.aload_n 1, 26, 0, 0, 0), some (.iload_n 2, 27, 0, 0, 0), some (.invokevirtual 29, 30, 43, 384, 0), none, none, some (.invokevirtual 50, 33, 25, 388, 0), none, none, some (.pop, 34, 0, 0, 0), some (.iinc 2 1, 37, 0, 0, 1), none, none, some (.goto (-31), 40, 6, 0, 0), none, none, some (.return_, 41, 0, 0, 0)]
/-- NeedleTelegraph$Message.copy -/
abbrev m_45 : Mth := (yX1_copy, cX1_copy, 2, none, 2, false, 1)
def c_45 : List (Option Ent) := [some (.aload_n 0, 1, 0, 0, 0), some (.aload_n 1, 2, 0, 0, 0), some (.getfield 9, 5, 100, 116, 0), none, none, some (.putfield 9, 8, 100, 116, 0), none, none, some (.aload_n 0, 9, 0, 0, 0), some (.aload_n 1, 10, 0, 0, 0), some (.getfield 15, 13, 101, 118, 0), none, none, some (.putfield 15, 16, 101, 118, 0), none, none, some (.aload_n 0, 17, 0, 0, 0), some (.aload_n 1, 18, 0, 0, 0), some (.getfield 18, 21, 102, 121, 0), none, none, some (.putfield 18, 24, 102, 121, 0), none, none, some (.aload_n 0, 25, 0, 0, 0), some (.aload_n 1, 26, 0, 0, 0), some (.getfield 21, 29, 103, 124, 0), none, none, some (.putfield 21, 32, 103, 124, 0), none, none, some (.aload_n 0, 33, 0, 0, 0), some (.aload_n 1, 34, 0, 0, 0), some (.getfield 24, 37, 104, 127, 0), none, none, some (.putfield 24, 40, 104, 127, 0), none, none, some (.aload_n 0, 41, 0, 0, 0), some (.aload_n 1, 42, 0, 0, 0), some (.getfield 27, 45, 105, 129, 0), none, none, some (.putfield 27, 48, 105, 129, 0), none, none, some (.return_, 49, 0, 0, 0)]
/-- NeedleTelegraph$Moment.copy -/
abbrev m_46 : Mth := (yX2_copy, cX2_copy, 3, none, 2, false, 2)
def c_46 : List (Option Ent) := [some (.aload_n 0, 1, 0, 0, 0), some (.aload_n 1, 2, 0, 0, 0), some (.getfield 22, 5, 202, 146, 0), none, none, some (.putfield 22, 8, 202, 146, 0), none, none, some (.aload_n 0, 9, 0, 0, 0), some (.aload_n 1, 10, 0, 0, 0), some (.getfield 26, 13, 203, 147, 0), none, none, some (.putfield 26, 16, 203, 147, 0), none, none, some (.aload_n 0, 17, 0, 0, 0), some (.aload_n 1, 18, 0, 0, 0), some (.getfield 29, 21, 204, 148, 0), none, none, some (.putfield 29, 24, 204, 148, 0), none, none, some (.iconst 0, 25, 0, 0, 0), some (.istore_n 2, 26, 0, 0, 0), some (.iload_n 2, 27, 0, 0, 0), some (.aload_n 0, 28, 0, 0, 0), some (.getfield 22, 31, 202, 146, 0), none, none, some (.if_icmp .ge 22, 34, 53, 0, 0), none, none, some (.aload_n 0, 35, 0, 0, 0), some (.iload_n 2, 36, 0, 0, 0), some (.invokevirtual 32, 39, 30, 341, 0), none, none, some (.aload_n 1, 40, 0, 0, 0), some (.iload_n 2, 41, 0, 0, 0), some (.invokevirtual 32, 44, 30, 341, 0), none, none, some (.invokevirtual 36, 47, 45, 393, 0), none, none, some (.iinc 2 1, 50, 0, 0, 1), none, none, some (.goto (-24), 53, 26, 0, 0), none, none, some (.return_, 54, 0, 0, 0)]
/-- NeedleTelegraph$Seen.clear -/
abbrev m_47 : Mth := (yX6_clear, cX6_clear, 1, none, 1, false, 5)
def c_47 : List (Option Ent) := [some (.aload_n 0, 1, 0, 0, 0), some (.iconst 0, 2, 0, 0, 0), some (.putfield 21, 5, 503, 207, 0), none, none, some (.return_, 6, 0, 0, 0)]
/-- NeedleTelegraph$Pile.clear -/
abbrev m_48 : Mth := (yX3_clear, cX3_clear, 1, none, 1, false, 3)
def c_48 : List (Option Ent) := [some (.aload_n 0, 1, 0, 0, 0), some (.iconst 0, 2, 0, 0, 0), some (.putfield 22, 5, 301, 192, 0), none, none, some (.return_, 6, 0, 0, 0)]
/-- NeedleTelegraph.layWhatWasRead -/
abbrev m_49 : Mth := (yX8_layWhatWasRead, cX8_layWhatWasRead, 1, none, 1, false, 7)
def c_49 : List (Option Ent) := [some (.aload_n 0, 1, 0, 0, 0), some (.getfield 28, 4, 702, 411, 1), none, none, some (.aload_n 0, 5, 0, 0, 0), some (.getfield 21, 8, 701, 410, 1), none, none, some (.getfield 91, 11, 400, 161, 1), none, none, some (.invokevirtual 241, 14, 44, 368, 0), none, none, some (.aload_n 0, 15, 0, 0, 0), some (.getfield 35, 18, 703, 412, 1), none, none, some (.aload_n 0, 19, 0, 0, 0), some (.getfield 21, 22, 701, 410, 1), none, none, some (.getfield 243, 25, 401, 163, 1), none, none, some (.invokevirtual 195, 28, 46, 389, 0), none, none, some (.aload_n 0, 29, 0, 0, 0), some (.getfield 57, 32, 707, 416, 1), none, none, some (.invokevirtual 207, 35, 47, 397, 0), none, none, some (.aload_n 0, 36, 0, 0, 0), some (.getfield 47, 39, 705, 414, 1), none, none, some (.invokevirtual 237, 42, 48, 401, 0), none, none, some (.aload_n 0, 43, 0, 0, 0), some (.getfield 51, 46, 706, 415, 1), none, none, some (.invokevirtual 237, 49, 48, 401, 0), none, none, some (.return_, 50, 0, 0, 0)]
/-- NeedleTelegraph$Letters.clear -/
abbrev m_50 : Mth := (yX0_clear, cX0_clear, 1, none, 1, false, 0)
def c_50 : List (Option Ent) := [some (.aload_n 0, 1, 0, 0, 0), some (.iconst 0, 2, 0, 0, 0), some (.putfield 15, 5, 1, 71, 0), none, none, some (.return_, 6, 0, 0, 0)]
/-- NeedleTelegraph.init -/
abbrev m_51 : Mth := (yX8_init, cX8_init, 2, none, 1, false, 7)
def c_51 : List (Option Ent) := [some (.aload_n 0, 1, 0, 0, 0), some (.invokespecial 1, 4, 9999, 61, 0), none, none, some (.aload_n 0, 5, 0, 0, 0), some (.new 7, 8, 0, 64, 0), none, none, some (.dup, 9, 0, 0, 0), some (.invokespecial 9, 12, 0, 66, 1), none, none, some (.putfield 10, 15, 700, 409, 1), none, none, some (.aload_n 0, 16, 0, 0, 0), some (.new 16, 19, 4, 78, 0), none, none, some (.dup, 20, 0, 0, 0), some (.aload_n 0, 21, 0, 0, 0), some (.getfield 10, 24, 700, 409, 1), none, none, some (.invokespecial 18, 27, 4, 80, 0), none, none, some (.putfield 21, 30, 701, 410, 1), none, none, some (.aload_n 0, 31, 0, 0, 0), some (.new 25, 34, 6, 175, 0), none, none, some (.dup, 35, 0, 0, 0), some (.invokespecial 27, 38, 1, 176, 1), none, none, some (.putfield 28, 41, 702, 411, 1), none, none, some (.aload_n 0, 42, 0, 0, 0), some (.new 32, 45, 2, 177, 0), none, none, some (.dup, 46, 0, 0, 0), some (.invokespecial 34, 49, 3, 178, 0), none, none, some (.putfield 35, 52, 703, 412, 1), none, none, some (.aload_n 0, 53, 0, 0, 0), some (.new 32, 56, 2, 177, 0), none, none, some (.dup, 57, 0, 0, 0), some (.invokespecial 34, 60, 3, 178, 0), none, none, some (.putfield 39, 63, 704, 413, 1), none, none, some (.aload_n 0, 64, 0, 0, 0), some (.new 42, 67, 3, 179, 0), none, none, some (.dup, 68, 0, 0, 0), some (.bipush 8, 70, 0, 0, 8), none, some (.invokespecial 44, 73, 6, 181, 0), none, none, some (.putfield 47, 76, 705, 414, 1), none, none, some (.aload_n 0, 77, 0, 0, 0), some (.new 42, 80, 3, 179, 0), none, none, some (.dup, 81, 0, 0, 0), some (.iconst 2, 82, 0, 0, 2), some (.invokespecial 44, 85, 6, 181, 0), none, none, some (.putfield 51, 88, 706, 415, 1), none, none, some (.aload_n 0, 89, 0, 0, 0), some (.new 54, 92, 5, 198, 0), none, none, some (.dup, 93, 0, 0, 0), some (.invokespecial 56, 96, 7, 200, 1), none, none, some (.putfield 57, 99, 707, 416, 1), none, none, some (.iconst 0, 100, 0, 0, 0), some (.istore_n 1, 101, 0, 0, 0), some (.iload_n 1, 102, 0, 0, 0), some (.ldc 61, 104, 1, 217, 0), none, some (.invokevirtual 63, 107, 9, 218, 0), none, none, some (.if_icmp .ge 23, 110, 130, 0, 0), none, none, some (.aload_n 0, 111, 0, 0, 0), some (.getfield 10, 114, 700, 409, 1), none, none, some (.ldc 61, 116, 1, 217, 0), none, some (.iload_n 1, 117, 0, 0, 0), some (.invokevirtual 69, 120, 14, 228, 0), none, none, some (.invokevirtual 73, 123, 16, 266, 0), none, none, some (.pop, 124, 0, 0, 0), some (.iinc 1 1, 127, 0, 0, 1), none, none, some (.goto (-26), 130, 101, 0, 0), none, none, some (.aload_n 0, 131, 0, 0, 0), some (.getfield 21, 134, 701, 410, 1), none, none, some (.invokevirtual 77, 137, 39, 273, 0), none, none, some (.bipush (-4), 139, 0, 0, (-4)), none, some (.if_icmp .ne 7, 142, 146, 0, 0), none, none, some (.aload_n 0, 143, 0, 0, 0), some (.invokevirtual 80, 146, 49, 364, 0), none, none, some (.aload_n 0, 147, 0, 0, 0), some (.getfield 10, 150, 700, 409, 1), none, none, some (.invokevirtual 83, 153, 50, 405, 0), none, none, some (.return_, 154, 0, 0, 0)]
/-- NeedleTelegraphModel.anew -/
abbrev m_52 : Mth := (yX9_anew, cX9_anew, 1, none, 1, false, 8)
def c_52 : List (Option Ent) := [some (.aload_n 0, 1, 0, 0, 0), some (.iconst 0, 2, 0, 0, 0), some (.putfield 84, 5, 803, 778, 0), none, none, some (.aload_n 0, 6, 0, 0, 0), some (.iconst 0, 7, 0, 0, 0), some (.putfield 87, 10, 804, 779, 0), none, none, some (.aload_n 0, 11, 0, 0, 0), some (.iconst 0, 12, 0, 0, 0), some (.putfield 65, 15, 805, 780, 0), none, none, some (.return_, 16, 0, 0, 0)]
/-- NeedleTelegraphModel.sits -/
abbrev m_53 : Mth := (yX9_sits, cX9_sits, 4, none, 4, false, 8)
def c_53 : List (Option Ent) := [some (.aload_n 0, 1, 0, 0, 0), some (.getfield 13, 4, 806, 781, 1), none, none, some (.aload_n 0, 5, 0, 0, 0), some (.getfield 84, 8, 803, 778, 0), none, none, some (.iload_n 1, 9, 0, 0, 0), some (.iastore, 10, 0, 0, 0), some (.aload_n 0, 11, 0, 0, 0), some (.getfield 16, 14, 807, 782, 1), none, none, some (.aload_n 0, 15, 0, 0, 0), some (.getfield 84, 18, 803, 778, 0), none, none, some (.iload_n 2, 19, 0, 0, 0), some (.iastore, 20, 0, 0, 0), some (.aload_n 0, 21, 0, 0, 0), some (.getfield 19, 24, 808, 783, 1), none, none, some (.aload_n 0, 25, 0, 0, 0), some (.getfield 84, 28, 803, 778, 0), none, none, some (.iload_n 3, 29, 0, 0, 0), some (.iastore, 30, 0, 0, 0), some (.aload_n 0, 31, 0, 0, 0), some (.dup, 32, 0, 0, 0), some (.getfield 84, 35, 803, 778, 0), none, none, some (.iconst 1, 36, 0, 0, 1), some (.iadd, 37, 0, 0, 0), some (.putfield 84, 40, 803, 778, 0), none, none, some (.return_, 41, 0, 0, 0)]
/-- NeedleTelegraphModel.begins -/
abbrev m_54 : Mth := (yX9_begins, cX9_begins, 4, none, 4, false, 8)
def c_54 : List (Option Ent) := [some (.aload_n 0, 1, 0, 0, 0), some (.getfield 22, 4, 809, 784, 1), none, none, some (.aload_n 0, 5, 0, 0, 0), some (.getfield 87, 8, 804, 779, 0), none, none, some (.iload_n 1, 9, 0, 0, 0), some (.iastore, 10, 0, 0, 0), some (.aload_n 0, 11, 0, 0, 0), some (.getfield 25, 14, 810, 785, 1), none, none, some (.aload_n 0, 15, 0, 0, 0), some (.getfield 87, 18, 804, 779, 0), none, none, some (.iload_n 2, 19, 0, 0, 0), some (.iastore, 20, 0, 0, 0), some (.aload_n 0, 21, 0, 0, 0), some (.getfield 28, 24, 811, 786, 1), none, none, some (.aload_n 0, 25, 0, 0, 0), some (.getfield 87, 28, 804, 779, 0), none, none, some (.iload_n 3, 29, 0, 0, 0), some (.iastore, 30, 0, 0, 0), some (.aload_n 0, 31, 0, 0, 0), some (.dup, 32, 0, 0, 0), some (.getfield 87, 35, 804, 779, 0), none, none, some (.iconst 1, 36, 0, 0, 1), some (.iadd, 37, 0, 0, 0), some (.putfield 87, 40, 804, 779, 0), none, none, some (.return_, 41, 0, 0, 0)]
/-- NeedleTelegraphModel.adds -/
abbrev m_55 : Mth := (yX9_adds, cX9_adds, 5, none, 4, true, 8)
def c_55 : List (Option Ent) := [some (.iconst 3, 1, 0, 0, 3), some (.bipush 6, 3, 0, 0, 6), none, some (.aload_n 0, 4, 0, 0, 0), some (.iconst 2, 5, 0, 0, 2), some (.iaload, 6, 0, 0, 0), some (.imul, 7, 0, 0, 0), some (.iadd, 8, 0, 0, 0), some (.istore 4, 10, 0, 0, 0), none, some (.aload_n 0, 11, 0, 0, 0), some (.iload 4, 13, 0, 0, 0), none, some (.iconst 0, 14, 0, 0, 0), some (.iadd, 15, 0, 0, 0), some (.iload_n 2, 16, 0, 0, 0), some (.iastore, 17, 0, 0, 0), some (.aload_n 0, 18, 0, 0, 0), some (.iload 4, 20, 0, 0, 0), none, some (.iconst 1, 21, 0, 0, 1), some (.iadd, 22, 0, 0, 0), some (.iconst 0, 23, 0, 0, 0), some (.iastore, 24, 0, 0, 0), some (.aload_n 0, 25, 0, 0, 0), some (.iload 4, 27, 0, 0, 0), none, some (.iconst 2, 28, 0, 0, 2), some (.iadd, 29, 0, 0, 0), some (.iload_n 1, 30, 0, 0, 0), some (.iastore, 31, 0, 0, 0), some (.aload_n 0, 32, 0, 0, 0), some (.iload 4, 34, 0, 0, 0), none, some (.iconst 3, 35, 0, 0, 3), some (.iadd, 36, 0, 0, 0), some (.iload_n 3, 37, 0, 0, 0), some (.iastore, 38, 0, 0, 0), some (.aload_n 0, 39, 0, 0, 0), some (.iload 4, 41, 0, 0, 0), none, some (.iconst 4, 42, 0, 0, 4), some (.iadd, 43, 0, 0, 0), some (.iconst 0, 44, 0, 0, 0), some (.iastore, 45, 0, 0, 0), some (.aload_n 0, 46, 0, 0, 0), some (.iload 4, 48, 0, 0, 0), none, some (.iconst 5, 49, 0, 0, 5), some (.iadd, 50, 0, 0, 0), some (.bipush (-4), 52, 0, 0, (-4)), none, some (.iastore, 53, 0, 0, 0), some (.aload_n 0, 54, 0, 0, 0), some (.iconst 2, 55, 0, 0, 2), some (.dup2, 56, 0, 0, 0), some (.iaload, 57, 0, 0, 0), some (.iconst 1, 58, 0, 0, 1), some (.iadd, 59, 0, 0, 0), some (.iastore, 60, 0, 0, 0), some (.return_, 61, 0, 0, 0)]
/-- NeedleTelegraphModel.laid -/
abbrev m_56 : Mth := (yX9_laid, cX9_laid, 2, none, 1, false, 8)
def c_56 : List (Option Ent) := [some (.aload_n 0, 1, 0, 0, 0), some (.aload_n 0, 2, 0, 0, 0), some (.getfield 84, 5, 803, 778, 0), none, none, some (.putfield 119, 8, 812, 787, 0), none, none, some (.iconst 0, 9, 0, 0, 0), some (.istore_n 1, 10, 0, 0, 0), some (.iload_n 1, 11, 0, 0, 0), some (.bipush 9, 13, 0, 0, 9), none, some (.if_icmp .ge 45, 16, 58, 0, 0), none, none, some (.aload_n 0, 17, 0, 0, 0), some (.getfield 31, 20, 813, 788, 1), none, none, some (.iload_n 1, 21, 0, 0, 0), some (.aload_n 0, 22, 0, 0, 0), some (.getfield 13, 25, 806, 781, 1), none, none, some (.iload_n 1, 26, 0, 0, 0), some (.iaload, 27, 0, 0, 0), some (.iastore, 28, 0, 0, 0), some (.aload_n 0, 29, 0, 0, 0), some (.getfield 34, 32, 814, 789, 1), none, none, some (.iload_n 1, 33, 0, 0, 0), some (.aload_n 0, 34, 0, 0, 0), some (.getfield 16, 37, 807, 782, 1), none, none, some (.iload_n 1, 38, 0, 0, 0), some (.iaload, 39, 0, 0, 0), some (.iastore, 40, 0, 0, 0), some (.aload_n 0, 41, 0, 0, 0), some (.getfield 37, 44, 815, 790, 1), none, none, some (.iload_n 1, 45, 0, 0, 0), some (.aload_n 0, 46, 0, 0, 0), some (.getfield 19, 49, 808, 783, 1), none, none, some (.iload_n 1, 50, 0, 0, 0), some (.iaload, 51, 0, 0, 0), some (.iastore, 52, 0, 0, 0), some (.iinc 1 1, 55, 0, 0, 1), none, none, some (.goto (-45), 58, 10, 0, 0), none, none, some (.iconst 0, 59, 0, 0, 0), some (.istore_n 1, 60, 0, 0, 0), some (.iload_n 1, 61, 0, 0, 0), some (.bipush 39, 63, 0, 0, 39), none, some (.if_icmp .ge 16, 66, 79, 0, 0), none, none, some (.aload_n 0, 67, 0, 0, 0), some (.getfield 40, 70, 816, 791, 1), none, none, some (.iload_n 1, 71, 0, 0, 0), some (.iconst 0, 72, 0, 0, 0), some (.iastore, 73, 0, 0, 0), some (.iinc 1 1, 76, 0, 0, 1), none, none, some (.goto (-16), 79, 60, 0, 0), none, none, some (.aload_n 0, 80, 0, 0, 0), some (.getfield 40, 83, 816, 791, 1), none, none, some (.iconst 1, 84, 0, 0, 1), some (.aload_n 0, 85, 0, 0, 0), some (.getfield 65, 88, 805, 780, 0), none, none, some (.iastore, 89, 0, 0, 0), some (.iconst 0, 90, 0, 0, 0), some (.istore_n 1, 91, 0, 0, 0), some (.iload_n 1, 92, 0, 0, 0), some (.aload_n 0, 93, 0, 0, 0), some (.getfield 87, 96, 804, 779, 0), none, none, some (.if_icmp .ge 34, 99, 130, 0, 0), none, none, some (.aload_n 0, 100, 0, 0, 0), some (.getfield 40, 103, 816, 791, 1), none, none, some (.aload_n 0, 104, 0, 0, 0), some (.getfield 22, 107, 809, 784, 1), none, none, some (.iload_n 1, 108, 0, 0, 0), some (.iaload, 109, 0, 0, 0), some (.aload_n 0, 110, 0, 0, 0), some (.getfield 25, 113, 810, 785, 1), none, none, some (.iload_n 1, 114, 0, 0, 0), some (.iaload, 115, 0, 0, 0), some (.aload_n 0, 116, 0, 0, 0), some (.getfield 28, 119, 811, 786, 1), none, none, some (.iload_n 1, 120, 0, 0, 0), some (.iaload, 121, 0, 0, 0), some (.invokestatic 122, 124, 55, 772, 0), none, none, some (.iinc 1 1, 127, 0, 0, 1), none, none, some (.goto (-36), 130, 91, 0, 0), none, none, some (.aload_n 0, 131, 0, 0, 0), some (.iconst 0, 132, 0, 0, 0), some (.putfield 126, 135, 818, 793, 0), none, none, some (.aload_n 0, 136, 0, 0, 0), some (.iconst 0, 137, 0, 0, 0), some (.putfield 129, 140, 823, 798, 0), none, none, some (.aload_n 0, 141, 0, 0, 0), some (.iconst 0, 142, 0, 0, 0), some (.putfield 132, 145, 821, 796, 0), none, none, some (.return_, 146, 0, 0, 0)]
/-- NeedleTelegraphModel.init -/
abbrev m_57 : Mth := (yX9_init, cX9_init, 1, none, 1, false, 8)
def c_57 : List (Option Ent) := [some (.aload_n 0, 1, 0, 0, 0), some (.invokespecial 1, 4, 9999, 755, 0), none, none, some (.aload_n 0, 5, 0, 0, 0), some (.sipush 200, 8, 0, 0, 200), none, none, some (.newarray .int, 10, 0, 0, 0), none, some (.putfield 7, 13, 801, 776, 1), none, none, some (.aload_n 0, 14, 0, 0, 0), some (.bipush 9, 16, 0, 0, 9), none, some (.newarray .int, 18, 0, 0, 0), none, some (.putfield 13, 21, 806, 781, 1), none, none, some (.aload_n 0, 22, 0, 0, 0), some (.bipush 9, 24, 0, 0, 9), none, some (.newarray .int, 26, 0, 0, 0), none, some (.putfield 16, 29, 807, 782, 1), none, none, some (.aload_n 0, 30, 0, 0, 0), some (.bipush 9, 32, 0, 0, 9), none, some (.newarray .int, 34, 0, 0, 0), none, some (.putfield 19, 37, 808, 783, 1), none, none, some (.aload_n 0, 38, 0, 0, 0), some (.bipush 6, 40, 0, 0, 6), none, some (.newarray .int, 42, 0, 0, 0), none, some (.putfield 22, 45, 809, 784, 1), none, none, some (.aload_n 0, 46, 0, 0, 0), some (.bipush 6, 48, 0, 0, 6), none, some (.newarray .int, 50, 0, 0, 0), none, some (.putfield 25, 53, 810, 785, 1), none, none, some (.aload_n 0, 54, 0, 0, 0), some (.bipush 6, 56, 0, 0, 6), none, some (.newarray .int, 58, 0, 0, 0), none, some (.putfield 28, 61, 811, 786, 1), none, none, some (.aload_n 0, 62, 0, 0, 0), some (.bipush 9, 64, 0, 0, 9), none, some (.newarray .int, 66, 0, 0, 0), none, some (.putfield 31, 69, 813, 788, 1), none, none, some (.aload_n 0, 70, 0, 0, 0), some (.bipush 9, 72, 0, 0, 9), none, some (.newarray .int, 74, 0, 0, 0), none, some (.putfield 34, 77, 814, 789, 1), none, none, some (.aload_n 0, 78, 0, 0, 0), some (.bipush 9, 80, 0, 0, 9), none, some (.newarray .int, 82, 0, 0, 0), none, some (.putfield 37, 85, 815, 790, 1), none, none, some (.aload_n 0, 86, 0, 0, 0), some (.bipush 39, 88, 0, 0, 39), none, some (.newarray .int, 90, 0, 0, 0), none, some (.putfield 40, 93, 816, 791, 1), none, none, some (.aload_n 0, 94, 0, 0, 0), some (.bipush 39, 96, 0, 0, 39), none, some (.newarray .int, 98, 0, 0, 0), none, some (.putfield 43, 101, 817, 792, 1), none, none, some (.aload_n 0, 102, 0, 0, 0), some (.sipush 312, 105, 0, 0, 312), none, none, some (.newarray .int, 107, 0, 0, 0), none, some (.putfield 46, 110, 820, 795, 1), none, none, some (.aload_n 0, 111, 0, 0, 0), some (.bipush 18, 113, 0, 0, 18), none, some (.newarray .int, 115, 0, 0, 0), none, some (.putfield 49, 118, 822, 797, 1), none, none, some (.aload_n 0, 119, 0, 0, 0), some (.bipush 78, 121, 0, 0, 78), none, some (.newarray .int, 123, 0, 0, 0), none, some (.putfield 52, 126, 824, 799, 1), none, none, some (.aload_n 0, 127, 0, 0, 0), some (.invokevirtual 55, 130, 52, 756, 0), none, none, some (.aload_n 0, 131, 0, 0, 0), some (.iconst 0, 132, 0, 0, 0), some (.iconst 3, 133, 0, 0, 3), some (.iconst 0, 134, 0, 0, 0), some (.invokevirtual 58, 137, 53, 760, 0), none, none, some (.aload_n 0, 138, 0, 0, 0), some (.iconst 1, 139, 0, 0, 1), some (.iconst 2, 140, 0, 0, 2), some (.iconst 0, 141, 0, 0, 0), some (.invokevirtual 58, 144, 53, 760, 0), none, none, some (.aload_n 0, 145, 0, 0, 0), some (.iconst 2, 146, 0, 0, 2), some (.iconst 4, 147, 0, 0, 4), some (.iconst 1, 148, 0, 0, 1), some (.invokevirtual 58, 151, 53, 760, 0), none, none, some (.aload_n 0, 152, 0, 0, 0), some (.iconst 3, 153, 0, 0, 3), some (.iconst 5, 154, 0, 0, 5), some (.iconst 1, 155, 0, 0, 1), some (.invokevirtual 58, 158, 53, 760, 0), none, none, some (.aload_n 0, 159, 0, 0, 0), some (.iconst 0, 160, 0, 0, 0), some (.iconst 1, 161, 0, 0, 1), some (.iconst 2, 162, 0, 0, 2), some (.invokevirtual 58, 165, 53, 760, 0), none, none, some (.aload_n 0, 166, 0, 0, 0), some (.iconst 4, 167, 0, 0, 4), some (.bipush 6, 169, 0, 0, 6), none, some (.iconst 3, 170, 0, 0, 3), some (.invokevirtual 58, 173, 53, 760, 0), none, none, some (.aload_n 0, 174, 0, 0, 0), some (.iconst 2, 175, 0, 0, 2), some (.iconst 2, 176, 0, 0, 2), some (.iconst 5, 177, 0, 0, 5), some (.invokevirtual 58, 180, 53, 760, 0), none, none, some (.aload_n 0, 181, 0, 0, 0), some (.iconst 0, 182, 0, 0, 0), some (.bipush 7, 184, 0, 0, 7), none, some (.bipush 7, 186, 0, 0, 7), none, some (.invokevirtual 58, 189, 53, 760, 0), none, none, some (.aload_n 0, 190, 0, 0, 0), some (.iconst 4, 191, 0, 0, 4), some (.iconst 0, 192, 0, 0, 0), some (.bipush 102, 194, 0, 0, 102), none, some (.invokevirtual 62, 197, 54, 764, 0), none, none, some (.aload_n 0, 198, 0, 0, 0), some (.bipush 6, 200, 0, 0, 6), none, some (.iconst 2, 201, 0, 0, 2), some (.sipush 985, 204, 0, 0, 985), none, none, some (.invokevirtual 62, 207, 54, 764, 0), none, none, some (.aload_n 0, 208, 0, 0, 0), some (.bipush 7, 210, 0, 0, 7), none, some (.iconst 5, 211, 0, 0, 5), some (.iconst 2, 212, 0, 0, 2), some (.invokevirtual 62, 215, 54, 764, 0), none, none, some (.aload_n 0, 216, 0, 0, 0), some (.iconst 5, 217, 0, 0, 5), some (.bipush 9, 219, 0, 0, 9), none, some (.sipush 1407, 222, 0, 0, 1407), none, none, some (.invokevirtual 62, 225, 54, 764, 0), none, none, some (.aload_n 0, 226, 0, 0, 0), some (.bipush 8, 228, 0, 0, 8), none, some (.putfield 65, 231, 805, 780, 0), none, none, some (.aload_n 0, 232, 0, 0, 0), some (.invokevirtual 69, 235, 56, 768, 0), none, none, some (.return_, 236, 0, 0, 0)]
/-- NeedleTelegraph.write -/
abbrev m_58 : Mth := (yX8_write, cX8_write, 2, (some .int), 2, false, 7)
def c_58 : List (Option Ent) := [some (.iload_n 1, 1, 0, 0, 0), some (.bipush 32, 3, 0, 0, 32), none, some (.bipush 126, 5, 0, 0, 126), none, some (.invokestatic 86, 8, 22, 439, 0), none, none, some (.ifCond .ne 5, 11, 13, 0, 0), none, none, some (.iconst (-1), 12, 0, 0, (-1)), some (.ireturn, 13, 0, 0, 0), some (.aload_n 0, 14, 0, 0, 0), some (.getfield 10, 17, 700, 409, 1), none, none, some (.iload_n 1, 18, 0, 0, 0), some (.invokevirtual 73, 21, 16, 266, 0), none, none, some (.ifCond .eq 13, 24, 34, 0, 0), none, none, some (.aload_n 0, 25, 0, 0, 0), some (.getfield 10, 28, 700, 409, 1), none, none, some (.invokevirtual 90, 31, 19, 440, 0), none, none, some (.goto 5, 34, 36, 0, 0), none, none, some (.bipush (-3), 36, 0, 0, (-3)), none, some (.ireturn, 37, 0, 0, 0)]
/-- NeedleTelegraphModel.in -/
abbrev m_59 : Mth := (yX9_in, cX9_in, 3, (some .boolean), 3, true, 8)
def c_59 : List (Option Ent) := [some (.iload_n 0, 1, 0, 0, 0), some (.iload_n 1, 2, 0, 0, 0), some (.if_icmp .lt 12, 5, 14, 0, 0), none, none, some (.iload_n 0, 6, 0, 0, 0), some (.iload_n 2, 7, 0, 0, 0), some (.if_icmp .gt 7, 10, 14, 0, 0), none, none, some (.iconst 1, 11, 0, 0, 1), some (.goto 4, 14, 15, 0, 0), none, none, some (.iconst 0, 15, 0, 0, 0), some (.ireturn, 16, 0, 0, 0)]
/-- NeedleTelegraphModel.write -/
abbrev m_60 : Mth := (yX9_write, cX9_write, 2, (some .int), 2, false, 8)
def c_60 : List (Option Ent) := [some (.iload_n 1, 1, 0, 0, 0), some (.bipush 32, 3, 0, 0, 32), none, some (.bipush 126, 5, 0, 0, 126), none, some (.invokestatic 73, 8, 59, 855, 0), none, none, some (.ifCond .ne 5, 11, 13, 0, 0), none, none, some (.iconst (-1), 12, 0, 0, (-1)), some (.ireturn, 13, 0, 0, 0), some (.aload_n 0, 14, 0, 0, 0), some (.getfield 90, 17, 800, 775, 0), none, none, some (.sipush 200, 20, 0, 0, 200), none, none, some (.if_icmp .ne 6, 23, 26, 0, 0), none, none, some (.bipush (-3), 25, 0, 0, (-3)), none, some (.ireturn, 26, 0, 0, 0), some (.aload_n 0, 27, 0, 0, 0), some (.getfield 7, 30, 801, 776, 1), none, none, some (.aload_n 0, 31, 0, 0, 0), some (.getfield 90, 34, 800, 775, 0), none, none, some (.iload_n 1, 35, 0, 0, 0), some (.iastore, 36, 0, 0, 0), some (.aload_n 0, 37, 0, 0, 0), some (.dup, 38, 0, 0, 0), some (.getfield 90, 41, 800, 775, 0), none, none, some (.iconst 1, 42, 0, 0, 1), some (.iadd, 43, 0, 0, 0), some (.putfield 90, 46, 800, 775, 0), none, none, some (.aload_n 0, 47, 0, 0, 0), some (.getfield 90, 50, 800, 775, 0), none, none, some (.ireturn, 51, 0, 0, 0)]
/-- NeedleTelegraph.wipe -/
abbrev m_61 : Mth := (yX8_wipe, cX8_wipe, 2, (some .int), 1, false, 7)
def c_61 : List (Option Ent) := [some (.aload_n 0, 1, 0, 0, 0), some (.getfield 10, 4, 700, 409, 1), none, none, some (.invokevirtual 90, 7, 19, 440, 0), none, none, some (.istore_n 1, 8, 0, 0, 0), some (.aload_n 0, 9, 0, 0, 0), some (.getfield 10, 12, 700, 409, 1), none, none, some (.invokevirtual 83, 15, 50, 405, 0), none, none, some (.iload_n 1, 16, 0, 0, 0), some (.ireturn, 17, 0, 0, 0)]
/-- NeedleTelegraphModel.wipe -/
abbrev m_62 : Mth := (yX9_wipe, cX9_wipe, 2, (some .int), 1, false, 8)
def c_62 : List (Option Ent) := [some (.aload_n 0, 1, 0, 0, 0), some (.getfield 90, 4, 800, 775, 0), none, none, some (.istore_n 1, 5, 0, 0, 0), some (.aload_n 0, 6, 0, 0, 0), some (.iconst 0, 7, 0, 0, 0), some (.putfield 90, 10, 800, 775, 0), none, none, some (.iload_n 1, 11, 0, 0, 0), some (.ireturn, 12, 0, 0, 0)]
/-- NeedleTelegraph.fault -/
abbrev m_63 : Mth := (yX8_fault, cX8_fault, 1, (some .int), 1, false, 7)
def c_63 : List (Option Ent) := [some (.aload_n 0, 1, 0, 0, 0), some (.getfield 21, 4, 701, 410, 1), none, none, some (.invokevirtual 77, 7, 39, 273, 0), none, none, some (.ireturn, 8, 0, 0, 0)]
/-- NeedleTelegraphModel.here -/
abbrev m_64 : Mth := (yX9_here, cX9_here, 1, (some .int), 1, false, 8)
def c_64 : List (Option Ent) := [some (.aload_n 0, 1, 0, 0, 0), some (.getfield 93, 4, 802, 777, 0), none, none, some (.aload_n 0, 5, 0, 0, 0), some (.getfield 90, 8, 800, 775, 0), none, none, some (.if_icmp .ge 15, 11, 23, 0, 0), none, none, some (.aload_n 0, 12, 0, 0, 0), some (.getfield 7, 15, 801, 776, 1), none, none, some (.aload_n 0, 16, 0, 0, 0), some (.getfield 93, 19, 802, 777, 0), none, none, some (.iaload, 20, 0, 0, 0), some (.goto 4, 23, 24, 0, 0), none, none, some (.iconst 0, 24, 0, 0, 0), some (.ireturn, 25, 0, 0, 0)]
/-- NeedleTelegraphModel.number -/
abbrev m_65 : Mth := (yX9_number, cX9_number, 3, (some .int), 2, false, 8)
def c_65 : List (Option Ent) := [some (.aload_n 0, 1, 0, 0, 0), some (.invokevirtual 96, 4, 64, 874, 0), none, none, some (.bipush 48, 6, 0, 0, 48), none, some (.bipush 57, 8, 0, 0, 57), none, some (.invokestatic 73, 11, 59, 855, 0), none, none, some (.ifCond .ne 5, 14, 16, 0, 0), none, none, some (.iconst (-1), 15, 0, 0, (-1)), some (.ireturn, 16, 0, 0, 0), some (.aload_n 0, 17, 0, 0, 0), some (.invokevirtual 96, 20, 64, 874, 0), none, none, some (.bipush 48, 22, 0, 0, 48), none, some (.isub, 23, 0, 0, 0), some (.istore_n 2, 24, 0, 0, 0), some (.aload_n 0, 25, 0, 0, 0), some (.dup, 26, 0, 0, 0), some (.getfield 93, 29, 802, 777, 0), none, none, some (.iconst 1, 30, 0, 0, 1), some (.iadd, 31, 0, 0, 0), some (.putfield 93, 34, 802, 777, 0), none, none, some (.aload_n 0, 35, 0, 0, 0), some (.invokevirtual 96, 38, 64, 874, 0), none, none, some (.bipush 48, 40, 0, 0, 48), none, some (.bipush 57, 42, 0, 0, 57), none, some (.invokestatic 73, 45, 59, 855, 0), none, none, some (.ifCond .eq 26, 48, 71, 0, 0), none, none, some (.bipush 10, 50, 0, 0, 10), none, some (.iload_n 2, 51, 0, 0, 0), some (.imul, 52, 0, 0, 0), some (.aload_n 0, 53, 0, 0, 0), some (.invokevirtual 96, 56, 64, 874, 0), none, none, some (.iadd, 57, 0, 0, 0), some (.bipush 48, 59, 0, 0, 48), none, some (.isub, 60, 0, 0, 0), some (.istore_n 2, 61, 0, 0, 0), some (.aload_n 0, 62, 0, 0, 0), some (.dup, 63, 0, 0, 0), some (.getfield 93, 66, 802, 777, 0), none, none, some (.iconst 1, 67, 0, 0, 1), some (.iadd, 68, 0, 0, 0), some (.putfield 93, 71, 802, 777, 0), none, none, some (.aload_n 0, 72, 0, 0, 0), some (.invokevirtual 96, 75, 64, 874, 0), none, none, some (.iload_n 1, 76, 0, 0, 0), some (.if_icmp .eq 5, 79, 81, 0, 0), none, none, some (.iconst (-1), 80, 0, 0, (-1)), some (.ireturn, 81, 0, 0, 0), some (.aload_n 0, 82, 0, 0, 0), some (.dup, 83, 0, 0, 0), some (.getfield 93, 86, 802, 777, 0), none, none, some (.iconst 1, 87, 0, 0, 1), some (.iadd, 88, 0, 0, 0), some (.putfield 93, 91, 802, 777, 0), none, none, some (.iload_n 2, 92, 0, 0, 0), some (.ireturn, 93, 0, 0, 0)]
/-- NeedleTelegraphModel.readsChair -/
abbrev m_66 : Mth := (yX9_readsChair, cX9_readsChair, 4, (some .boolean), 1, false, 8)
def c_66 : List (Option Ent) := [some (.aload_n 0, 1, 0, 0, 0), some (.bipush 44, 3, 0, 0, 44), none, some (.invokevirtual 100, 6, 65, 882, 0), none, none, some (.istore_n 1, 7, 0, 0, 0), some (.iload_n 1, 8, 0, 0, 0), some (.ifCond .ge 7, 11, 15, 0, 0), none, none, some (.iconst (-1), 12, 0, 0, (-1)), some (.goto 9, 15, 21, 0, 0), none, none, some (.aload_n 0, 16, 0, 0, 0), some (.bipush 44, 18, 0, 0, 44), none, some (.invokevirtual 100, 21, 65, 882, 0), none, none, some (.istore_n 2, 22, 0, 0, 0), some (.iload_n 2, 23, 0, 0, 0), some (.ifCond .ge 7, 26, 30, 0, 0), none, none, some (.iconst (-1), 27, 0, 0, (-1)), some (.goto 9, 30, 36, 0, 0), none, none, some (.aload_n 0, 31, 0, 0, 0), some (.bipush 59, 33, 0, 0, 59), none, some (.invokevirtual 100, 36, 65, 882, 0), none, none, some (.istore_n 3, 37, 0, 0, 0), some (.iload_n 3, 38, 0, 0, 0), some (.ifCond .lt 35, 41, 73, 0, 0), none, none, some (.iload_n 1, 42, 0, 0, 0), some (.iconst 4, 43, 0, 0, 4), some (.if_icmp .gt 30, 46, 73, 0, 0), none, none, some (.iload_n 2, 47, 0, 0, 0), some (.iconst 1, 48, 0, 0, 1), some (.bipush 20, 50, 0, 0, 20), none, some (.invokestatic 73, 53, 59, 855, 0), none, none, some (.ifCond .eq 20, 56, 73, 0, 0), none, none, some (.iload_n 3, 57, 0, 0, 0), some (.aload_n 0, 58, 0, 0, 0), some (.getfield 84, 61, 803, 778, 0), none, none, some (.if_icmp .gt 12, 64, 73, 0, 0), none, none, some (.aload_n 0, 65, 0, 0, 0), some (.getfield 84, 68, 803, 778, 0), none, none, some (.bipush 9, 70, 0, 0, 9), none, some (.if_icmp .ne 5, 73, 75, 0, 0), none, none, some (.iconst 0, 74, 0, 0, 0), some (.ireturn, 75, 0, 0, 0), some (.aload_n 0, 76, 0, 0, 0), some (.iload_n 1, 77, 0, 0, 0), some (.iload_n 2, 78, 0, 0, 0), some (.iload_n 3, 79, 0, 0, 0), some (.invokevirtual 58, 82, 53, 760, 0), none, none, some (.iconst 1, 83, 0, 0, 1), some (.ireturn, 84, 0, 0, 0)]
/-- NeedleTelegraphModel.stitches -/
abbrev m_67 : Mth := (yX9_stitches, cX9_stitches, 5, (some .int), 1, false, 8)
def c_67 : List (Option Ent) := [some (.iconst 0, 1, 0, 0, 0), some (.istore_n 1, 2, 0, 0, 0), some (.iconst 0, 3, 0, 0, 0), some (.istore_n 2, 4, 0, 0, 0), some (.iconst 1, 5, 0, 0, 1), some (.istore_n 3, 6, 0, 0, 0), some (.iload_n 3, 7, 0, 0, 0), some (.ifCond .eq 102, 10, 109, 0, 0), none, none, some (.aload_n 0, 11, 0, 0, 0), some (.invokevirtual 96, 14, 64, 874, 0), none, none, some (.bipush 59, 16, 0, 0, 59), none, some (.if_icmp .eq 93, 19, 109, 0, 0), none, none, some (.aload_n 0, 20, 0, 0, 0), some (.invokevirtual 96, 23, 64, 874, 0), none, none, some (.bipush 112, 25, 0, 0, 112), none, some (.if_icmp .ne 7, 28, 32, 0, 0), none, none, some (.iconst 1, 29, 0, 0, 1), some (.goto 30, 32, 59, 0, 0), none, none, some (.aload_n 0, 33, 0, 0, 0), some (.invokevirtual 96, 36, 64, 874, 0), none, none, some (.bipush 117, 38, 0, 0, 117), none, some (.if_icmp .ne 7, 41, 45, 0, 0), none, none, some (.iconst 2, 42, 0, 0, 2), some (.goto 17, 45, 59, 0, 0), none, none, some (.aload_n 0, 46, 0, 0, 0), some (.invokevirtual 96, 49, 64, 874, 0), none, none, some (.bipush 115, 51, 0, 0, 115), none, some (.if_icmp .ne 7, 54, 58, 0, 0), none, none, some (.iconst 3, 55, 0, 0, 3), some (.goto 4, 58, 59, 0, 0), none, none, some (.iconst 0, 59, 0, 0, 0), some (.istore 4, 61, 0, 0, 0), none, some (.iload 4, 63, 0, 0, 0), none, some (.ifCond .le 13, 66, 76, 0, 0), none, none, some (.iload_n 2, 67, 0, 0, 0), some (.bipush 8, 69, 0, 0, 8), none, some (.if_icmp .ge 7, 72, 76, 0, 0), none, none, some (.iconst 1, 73, 0, 0, 1), some (.goto 4, 76, 77, 0, 0), none, none, some (.iconst 0, 77, 0, 0, 0), some (.istore_n 3, 78, 0, 0, 0), some (.iload_n 3, 79, 0, 0, 0), some (.ifCond .eq 12, 82, 91, 0, 0), none, none, some (.iconst 4, 83, 0, 0, 4), some (.iload_n 1, 84, 0, 0, 0), some (.imul, 85, 0, 0, 0), some (.iload 4, 87, 0, 0, 0), none, some (.iadd, 88, 0, 0, 0), some (.goto 4, 91, 92, 0, 0), none, none, some (.iload_n 1, 92, 0, 0, 0), some (.istore_n 1, 93, 0, 0, 0), some (.iinc 2 1, 96, 0, 0, 1), none, none, some (.aload_n 0, 97, 0, 0, 0), some (.dup, 98, 0, 0, 0), some (.getfield 93, 101, 802, 777, 0), none, none, some (.iconst 1, 102, 0, 0, 1), some (.iadd, 103, 0, 0, 0), some (.putfield 93, 106, 802, 777, 0), none, none, some (.goto (-100), 109, 6, 0, 0), none, none, some (.iload_n 3, 110, 0, 0, 0), some (.ifCond .eq 7, 113, 117, 0, 0), none, none, some (.iload_n 2, 114, 0, 0, 0), some (.ifCond .ne 5, 117, 119, 0, 0), none, none, some (.iconst (-1), 118, 0, 0, (-1)), some (.ireturn, 119, 0, 0, 0), some (.aload_n 0, 120, 0, 0, 0), some (.dup, 121, 0, 0, 0), some (.getfield 93, 124, 802, 777, 0), none, none, some (.iconst 1, 125, 0, 0, 1), some (.iadd, 126, 0, 0, 0), some (.putfield 93, 129, 802, 777, 0), none, none, some (.iload_n 1, 130, 0, 0, 0), some (.ireturn, 131, 0, 0, 0)]
/-- NeedleTelegraphModel.readsMessage -/
abbrev m_68 : Mth := (yX9_readsMessage, cX9_readsMessage, 4, (some .boolean), 1, false, 8)
def c_68 : List (Option Ent) := [some (.aload_n 0, 1, 0, 0, 0), some (.bipush 44, 3, 0, 0, 44), none, some (.invokevirtual 100, 6, 65, 882, 0), none, none, some (.istore_n 1, 7, 0, 0, 0), some (.iload_n 1, 8, 0, 0, 0), some (.ifCond .ge 7, 11, 15, 0, 0), none, none, some (.iconst (-1), 12, 0, 0, (-1)), some (.goto 9, 15, 21, 0, 0), none, none, some (.aload_n 0, 16, 0, 0, 0), some (.bipush 44, 18, 0, 0, 44), none, some (.invokevirtual 100, 21, 65, 882, 0), none, none, some (.istore_n 2, 22, 0, 0, 0), some (.iload_n 2, 23, 0, 0, 0), some (.ifCond .ge 7, 26, 30, 0, 0), none, none, some (.iconst (-1), 27, 0, 0, (-1)), some (.goto 7, 30, 34, 0, 0), none, none, some (.aload_n 0, 31, 0, 0, 0), some (.invokevirtual 103, 34, 67, 890, 0), none, none, some (.istore_n 3, 35, 0, 0, 0), some (.iload_n 3, 36, 0, 0, 0), some (.ifCond .lt 20, 39, 56, 0, 0), none, none, some (.iload_n 1, 40, 0, 0, 0), some (.aload_n 0, 41, 0, 0, 0), some (.getfield 84, 44, 803, 778, 0), none, none, some (.if_icmp .ge 12, 47, 56, 0, 0), none, none, some (.aload_n 0, 48, 0, 0, 0), some (.getfield 87, 51, 804, 779, 0), none, none, some (.bipush 6, 53, 0, 0, 6), none, some (.if_icmp .ne 5, 56, 58, 0, 0), none, none, some (.iconst 0, 57, 0, 0, 0), some (.ireturn, 58, 0, 0, 0), some (.aload_n 0, 59, 0, 0, 0), some (.iload_n 1, 60, 0, 0, 0), some (.iload_n 2, 61, 0, 0, 0), some (.iload_n 3, 62, 0, 0, 0), some (.invokevirtual 62, 65, 54, 764, 0), none, none, some (.iconst 1, 66, 0, 0, 1), some (.ireturn, 67, 0, 0, 0)]
/-- NeedleTelegraphModel.readsItem -/
abbrev m_69 : Mth := (yX9_readsItem, cX9_readsItem, 3, (some .boolean), 1, false, 8)
def c_69 : List (Option Ent) := [some (.aload_n 0, 1, 0, 0, 0), some (.invokevirtual 96, 4, 64, 874, 0), none, none, some (.istore_n 1, 5, 0, 0, 0), some (.aload_n 0, 6, 0, 0, 0), some (.dup, 7, 0, 0, 0), some (.getfield 93, 10, 802, 777, 0), none, none, some (.iconst 1, 11, 0, 0, 1), some (.iadd, 12, 0, 0, 0), some (.putfield 93, 15, 802, 777, 0), none, none, some (.iload_n 1, 16, 0, 0, 0), some (.bipush 99, 18, 0, 0, 99), none, some (.if_icmp .ne 8, 21, 26, 0, 0), none, none, some (.aload_n 0, 22, 0, 0, 0), some (.invokevirtual 106, 25, 66, 878, 0), none, none, some (.ireturn, 26, 0, 0, 0), some (.iload_n 1, 27, 0, 0, 0), some (.bipush 109, 29, 0, 0, 109), none, some (.if_icmp .ne 8, 32, 37, 0, 0), none, none, some (.aload_n 0, 33, 0, 0, 0), some (.invokevirtual 110, 36, 68, 886, 0), none, none, some (.ireturn, 37, 0, 0, 0), some (.iload_n 1, 38, 0, 0, 0), some (.bipush 105, 40, 0, 0, 105), none, some (.if_icmp .ne 12, 43, 52, 0, 0), none, none, some (.aload_n 0, 44, 0, 0, 0), some (.bipush 59, 46, 0, 0, 59), none, some (.invokevirtual 100, 49, 65, 882, 0), none, none, some (.goto 4, 52, 53, 0, 0), none, none, some (.iconst (-1), 53, 0, 0, (-1)), some (.istore_n 2, 54, 0, 0, 0), some (.aload_n 0, 55, 0, 0, 0), some (.dup, 56, 0, 0, 0), some (.getfield 65, 59, 805, 780, 0), none, none, some (.iload_n 2, 60, 0, 0, 0), some (.iconst 0, 61, 0, 0, 0), some (.aload_n 0, 62, 0, 0, 0), some (.getfield 84, 65, 803, 778, 0), none, none, some (.iconst 1, 66, 0, 0, 1), some (.isub, 67, 0, 0, 0), some (.invokestatic 73, 70, 59, 855, 0), none, none, some (.ifCond .eq 9, 73, 79, 0, 0), none, none, some (.iconst 1, 74, 0, 0, 1), some (.iload_n 2, 75, 0, 0, 0), some (.ishl, 76, 0, 0, 0), some (.goto 4, 79, 80, 0, 0), none, none, some (.iconst 0, 80, 0, 0, 0), some (.ior, 81, 0, 0, 0), some (.putfield 65, 84, 805, 780, 0), none, none, some (.iload_n 2, 85, 0, 0, 0), some (.iconst 0, 86, 0, 0, 0), some (.aload_n 0, 87, 0, 0, 0), some (.getfield 84, 90, 803, 778, 0), none, none, some (.iconst 1, 91, 0, 0, 1), some (.isub, 92, 0, 0, 0), some (.invokestatic 73, 95, 59, 855, 0), none, none, some (.ireturn, 96, 0, 0, 0)]
/-- NeedleTelegraphModel.faultOf -/
abbrev m_70 : Mth := (yX9_faultOf, cX9_faultOf, 2, (some .int), 1, false, 8)
def c_70 : List (Option Ent) := [some (.aload_n 0, 1, 0, 0, 0), some (.invokevirtual 55, 4, 52, 756, 0), none, none, some (.aload_n 0, 5, 0, 0, 0), some (.iconst 0, 6, 0, 0, 0), some (.putfield 93, 9, 802, 777, 0), none, none, some (.aload_n 0, 10, 0, 0, 0), some (.getfield 93, 13, 802, 777, 0), none, none, some (.aload_n 0, 14, 0, 0, 0), some (.getfield 90, 17, 800, 775, 0), none, none, some (.if_icmp .ge 20, 20, 37, 0, 0), none, none, some (.aload_n 0, 21, 0, 0, 0), some (.getfield 93, 24, 802, 777, 0), none, none, some (.istore_n 1, 25, 0, 0, 0), some (.aload_n 0, 26, 0, 0, 0), some (.invokevirtual 113, 29, 69, 870, 0), none, none, some (.ifCond .ne 5, 32, 34, 0, 0), none, none, some (.iload_n 1, 33, 0, 0, 0), some (.ireturn, 34, 0, 0, 0), some (.goto (-25), 37, 9, 0, 0), none, none, some (.bipush (-4), 39, 0, 0, (-4)), none, some (.ireturn, 40, 0, 0, 0)]
/-- NeedleTelegraphModel.fault -/
abbrev m_71 : Mth := (yX9_fault, cX9_fault, 1, (some .int), 1, false, 8)
def c_71 : List (Option Ent) := [some (.aload_n 0, 1, 0, 0, 0), some (.invokevirtual 116, 4, 70, 866, 0), none, none, some (.ireturn, 5, 0, 0, 0)]
/-- NeedleTelegraph$Valley.size -/
abbrev m_72 : Mth := (yX7_size, cX7_size, 1, (some .int), 1, false, 6)
def c_72 : List (Option Ent) := [some (.aload_n 0, 1, 0, 0, 0), some (.getfield 21, 4, 603, 93, 0), none, none, some (.ireturn, 5, 0, 0, 0)]
/-- NeedleTelegraph.lay -/
abbrev m_73 : Mth := (yX8_lay, cX8_lay, 1, (some .int), 1, false, 7)
def c_73 : List (Option Ent) := [some (.aload_n 0, 1, 0, 0, 0), some (.getfield 21, 4, 701, 410, 1), none, none, some (.invokevirtual 77, 7, 39, 273, 0), none, none, some (.bipush (-4), 9, 0, 0, (-4)), none, some (.if_icmp .ne 16, 12, 25, 0, 0), none, none, some (.aload_n 0, 13, 0, 0, 0), some (.getfield 21, 16, 701, 410, 1), none, none, some (.getfield 91, 19, 400, 161, 1), none, none, some (.invokevirtual 92, 22, 72, 453, 0), none, none, some (.ifCond .ne 6, 25, 28, 0, 0), none, none, some (.bipush (-2), 27, 0, 0, (-2)), none, some (.ireturn, 28, 0, 0, 0), some (.aload_n 0, 29, 0, 0, 0), some (.invokevirtual 80, 32, 49, 364, 0), none, none, some (.aload_n 0, 33, 0, 0, 0), some (.getfield 28, 36, 702, 411, 1), none, none, some (.invokevirtual 92, 39, 72, 453, 0), none, none, some (.ireturn, 40, 0, 0, 0)]
/-- NeedleTelegraphModel.lay -/
abbrev m_74 : Mth := (yX9_lay, cX9_lay, 1, (some .int), 1, false, 8)
def c_74 : List (Option Ent) := [some (.aload_n 0, 1, 0, 0, 0), some (.invokevirtual 116, 4, 70, 866, 0), none, none, some (.bipush (-4), 6, 0, 0, (-4)), none, some (.if_icmp .ne 10, 9, 16, 0, 0), none, none, some (.aload_n 0, 10, 0, 0, 0), some (.getfield 84, 13, 803, 778, 0), none, none, some (.ifCond .ne 6, 16, 19, 0, 0), none, none, some (.bipush (-2), 18, 0, 0, (-2)), none, some (.ireturn, 19, 0, 0, 0), some (.aload_n 0, 20, 0, 0, 0), some (.invokevirtual 69, 23, 56, 768, 0), none, none, some (.aload_n 0, 24, 0, 0, 0), some (.getfield 119, 27, 812, 787, 0), none, none, some (.ireturn, 28, 0, 0, 0)]
/-- NeedleTelegraph$Message.isAt -/
abbrev m_75 : Mth := (yX1_isAt, cX1_isAt, 2, (some .boolean), 2, false, 1)
def c_75 : List (Option Ent) := [some (.aload_n 0, 1, 0, 0, 0), some (.getfield 15, 4, 101, 118, 0), none, none, some (.iconst 1, 5, 0, 0, 1), some (.if_icmp .ne 15, 8, 20, 0, 0), none, none, some (.aload_n 0, 9, 0, 0, 0), some (.getfield 18, 12, 102, 121, 0), none, none, some (.iload_n 1, 13, 0, 0, 0), some (.if_icmp .ne 7, 16, 20, 0, 0), none, none, some (.iconst 1, 17, 0, 0, 1), some (.goto 4, 20, 21, 0, 0), none, none, some (.iconst 0, 21, 0, 0, 0), some (.ireturn, 22, 0, 0, 0)]
/-- NeedleTelegraph$Moment.howManyAt -/
abbrev m_76 : Mth := (yX2_howManyAt, cX2_howManyAt, 4, (some .int), 2, false, 2)
def c_76 : List (Option Ent) := [some (.iconst 0, 1, 0, 0, 0), some (.istore_n 2, 2, 0, 0, 0), some (.iconst 0, 3, 0, 0, 0), some (.istore_n 3, 4, 0, 0, 0), some (.iload_n 3, 5, 0, 0, 0), some (.aload_n 0, 6, 0, 0, 0), some (.getfield 22, 9, 202, 146, 0), none, none, some (.if_icmp .ge 29, 12, 38, 0, 0), none, none, some (.iload_n 2, 13, 0, 0, 0), some (.aload_n 0, 14, 0, 0, 0), some (.iload_n 3, 15, 0, 0, 0), some (.invokevirtual 32, 18, 30, 341, 0), none, none, some (.iload_n 1, 19, 0, 0, 0), some (.invokevirtual 68, 22, 75, 470, 0), none, none, some (.ifCond .eq 7, 25, 29, 0, 0), none, none, some (.iconst 1, 26, 0, 0, 1), some (.goto 4, 29, 30, 0, 0), none, none, some (.iconst 0, 30, 0, 0, 0), some (.iadd, 31, 0, 0, 0), some (.istore_n 2, 32, 0, 0, 0), some (.iinc 3 1, 35, 0, 0, 1), none, none, some (.goto (-31), 38, 4, 0, 0), none, none, some (.iload_n 2, 39, 0, 0, 0), some (.ireturn, 40, 0, 0, 0)]
/-- NeedleTelegraph.chair -/
abbrev m_77 : Mth := (yX8_chair, cX8_chair, 3, (some .int), 3, false, 7)
def c_77 : List (Option Ent) := [some (.aload_n 0, 1, 0, 0, 0), some (.getfield 28, 4, 702, 411, 1), none, none, some (.iload_n 1, 5, 0, 0, 0), some (.invokevirtual 95, 8, 29, 461, 0), none, none, some (.ifCond .ne 5, 11, 13, 0, 0), none, none, some (.iconst (-1), 12, 0, 0, (-1)), some (.ireturn, 13, 0, 0, 0), some (.iload_n 2, 14, 0, 0, 0), some (.tableswitch 87 0 4 #[34, 43, 52, 61, 78], 48, 0, 0, 0), none, none, none, none, none, none, none, none, none, none, none, none, none, none, none, none, none, none, none, none, none, none, none, none, none, none, none, none, none, none, none, none, none, some (.aload_n 0, 49, 0, 0, 0), some (.getfield 28, 52, 702, 411, 1), none, none, some (.iload_n 1, 53, 0, 0, 0), some (.invokevirtual 98, 56, 41, 462, 0), none, none, some (.ireturn, 57, 0, 0, 0), some (.aload_n 0, 58, 0, 0, 0), some (.getfield 28, 61, 702, 411, 1), none, none, some (.iload_n 1, 62, 0, 0, 0), some (.invokevirtual 102, 65, 42, 463, 0), none, none, some (.ireturn, 66, 0, 0, 0), some (.aload_n 0, 67, 0, 0, 0), some (.getfield 28, 70, 702, 411, 1), none, none, some (.iload_n 1, 71, 0, 0, 0), some (.invokevirtual 105, 74, 43, 464, 0), none, none, some (.ireturn, 75, 0, 0, 0), some (.aload_n 0, 76, 0, 0, 0), some (.getfield 35, 79, 703, 412, 1), none, none, some (.iload_n 1, 80, 0, 0, 0), some (.invokevirtual 108, 83, 35, 465, 0), none, none, some (.ifCond .eq 7, 86, 90, 0, 0), none, none, some (.iconst 1, 87, 0, 0, 1), some (.goto 4, 90, 91, 0, 0), none, none, some (.iconst 0, 91, 0, 0, 0), some (.ireturn, 92, 0, 0, 0), some (.aload_n 0, 93, 0, 0, 0), some (.getfield 35, 96, 703, 412, 1), none, none, some (.iload_n 1, 97, 0, 0, 0), some (.invokevirtual 111, 100, 76, 466, 0), none, none, some (.ireturn, 101, 0, 0, 0), some (.iconst (-1), 102, 0, 0, (-1)), some (.ireturn, 103, 0, 0, 0)]
/-- NeedleTelegraphModel.isChair -/
abbrev m_78 : Mth := (yX9_isChair, cX9_isChair, 2, (some .boolean), 2, false, 8)
def c_78 : List (Option Ent) := [some (.iload_n 1, 1, 0, 0, 0), some (.iconst 0, 2, 0, 0, 0), some (.aload_n 0, 3, 0, 0, 0), some (.getfield 119, 6, 812, 787, 0), none, none, some (.iconst 1, 7, 0, 0, 1), some (.isub, 8, 0, 0, 0), some (.invokestatic 73, 11, 59, 855, 0), none, none, some (.ireturn, 12, 0, 0, 0)]
/-- NeedleTelegraphModel.is -/
abbrev m_79 : Mth := (yX9_is, cX9_is, 3, (some .int), 3, true, 8)
def c_79 : List (Option Ent) := [some (.aload_n 0, 1, 0, 0, 0), some (.iconst 3, 2, 0, 0, 3), some (.bipush 6, 4, 0, 0, 6), none, some (.iload_n 1, 5, 0, 0, 0), some (.imul, 6, 0, 0, 0), some (.iadd, 7, 0, 0, 0), some (.iload_n 2, 8, 0, 0, 0), some (.iadd, 9, 0, 0, 0), some (.iaload, 10, 0, 0, 0), some (.ireturn, 11, 0, 0, 0)]
/-- NeedleTelegraphModel.atChair -/
abbrev m_80 : Mth := (yX9_atChair, cX9_atChair, 4, (some .int), 2, false, 8)
def c_80 : List (Option Ent) := [some (.iconst 0, 1, 0, 0, 0), some (.istore_n 2, 2, 0, 0, 0), some (.iconst 0, 3, 0, 0, 0), some (.istore_n 3, 4, 0, 0, 0), some (.iload_n 3, 5, 0, 0, 0), some (.aload_n 0, 6, 0, 0, 0), some (.getfield 40, 9, 816, 791, 1), none, none, some (.iconst 2, 10, 0, 0, 2), some (.iaload, 11, 0, 0, 0), some (.if_icmp .ge 43, 14, 54, 0, 0), none, none, some (.iload_n 2, 15, 0, 0, 0), some (.aload_n 0, 16, 0, 0, 0), some (.getfield 40, 19, 816, 791, 1), none, none, some (.iload_n 3, 20, 0, 0, 0), some (.iconst 1, 21, 0, 0, 1), some (.invokestatic 135, 24, 79, 910, 0), none, none, some (.iconst 1, 25, 0, 0, 1), some (.if_icmp .ne 20, 28, 45, 0, 0), none, none, some (.aload_n 0, 29, 0, 0, 0), some (.getfield 40, 32, 816, 791, 1), none, none, some (.iload_n 3, 33, 0, 0, 0), some (.iconst 2, 34, 0, 0, 2), some (.invokestatic 135, 37, 79, 910, 0), none, none, some (.iload_n 1, 38, 0, 0, 0), some (.if_icmp .ne 7, 41, 45, 0, 0), none, none, some (.iconst 1, 42, 0, 0, 1), some (.goto 4, 45, 46, 0, 0), none, none, some (.iconst 0, 46, 0, 0, 0), some (.iadd, 47, 0, 0, 0), some (.istore_n 2, 48, 0, 0, 0), some (.iinc 3 1, 51, 0, 0, 1), none, none, some (.goto (-47), 54, 4, 0, 0), none, none, some (.iload_n 2, 55, 0, 0, 0), some (.ireturn, 56, 0, 0, 0)]
/-- NeedleTelegraphModel.chair -/
abbrev m_81 : Mth := (yX9_chair, cX9_chair, 3, (some .int), 3, false, 8)
def c_81 : List (Option Ent) := [some (.aload_n 0, 1, 0, 0, 0), some (.iload_n 1, 2, 0, 0, 0), some (.invokevirtual 139, 5, 78, 902, 0), none, none, some (.ifCond .ne 5, 8, 10, 0, 0), none, none, some (.iconst (-1), 9, 0, 0, (-1)), some (.ireturn, 10, 0, 0, 0), some (.iload_n 2, 11, 0, 0, 0), some (.tableswitch 71 0 4 #[33, 40, 47, 54, 65], 44, 0, 0, 0), none, none, none, none, none, none, none, none, none, none, none, none, none, none, none, none, none, none, none, none, none, none, none, none, none, none, none, none, none, none, none, none, some (.aload_n 0, 45, 0, 0, 0), some (.getfield 31, 48, 813, 788, 1), none, none, some (.iload_n 1, 49, 0, 0, 0), some (.iaload, 50, 0, 0, 0), some (.ireturn, 51, 0, 0, 0), some (.aload_n 0, 52, 0, 0, 0), some (.getfield 34, 55, 814, 789, 1), none, none, some (.iload_n 1, 56, 0, 0, 0), some (.iaload, 57, 0, 0, 0), some (.ireturn, 58, 0, 0, 0), some (.aload_n 0, 59, 0, 0, 0), some (.getfield 37, 62, 815, 790, 1), none, none, some (.iload_n 1, 63, 0, 0, 0), some (.iaload, 64, 0, 0, 0), some (.ireturn, 65, 0, 0, 0), some (.aload_n 0, 66, 0, 0, 0), some (.getfield 40, 69, 816, 791, 1), none, none, some (.iconst 1, 70, 0, 0, 1), some (.iaload, 71, 0, 0, 0), some (.iload_n 1, 72, 0, 0, 0), some (.ishr, 73, 0, 0, 0), some (.iconst 1, 74, 0, 0, 1), some (.iand, 75, 0, 0, 0), some (.ireturn, 76, 0, 0, 0), some (.aload_n 0, 77, 0, 0, 0), some (.iload_n 1, 78, 0, 0, 0), some (.invokevirtual 143, 81, 80, 906, 0), none, none, some (.ireturn, 82, 0, 0, 0), some (.iconst (-1), 83, 0, 0, (-1)), some (.ireturn, 84, 0, 0, 0)]
/-- NeedleTelegraph$Moment.has -/
abbrev m_82 : Mth := (yX2_has, cX2_has, 2, (some .boolean), 2, false, 2)
def c_82 : List (Option Ent) := [some (.iload_n 1, 1, 0, 0, 0), some (.ifCond .lt 15, 4, 16, 0, 0), none, none, some (.iload_n 1, 5, 0, 0, 0), some (.aload_n 0, 6, 0, 0, 0), some (.getfield 22, 9, 202, 146, 0), none, none, some (.if_icmp .ge 7, 12, 16, 0, 0), none, none, some (.iconst 1, 13, 0, 0, 1), some (.goto 4, 16, 17, 0, 0), none, none, some (.iconst 0, 17, 0, 0, 0), some (.ireturn, 18, 0, 0, 0)]
/-- NeedleTelegraph.message -/
abbrev m_83 : Mth := (yX8_message, cX8_message, 4, (some .int), 3, false, 7)
def c_83 : List (Option Ent) := [some (.aload_n 0, 1, 0, 0, 0), some (.getfield 35, 4, 703, 412, 1), none, none, some (.iload_n 1, 5, 0, 0, 0), some (.invokevirtual 114, 8, 82, 478, 0), none, none, some (.ifCond .ne 5, 11, 13, 0, 0), none, none, some (.iconst (-1), 12, 0, 0, (-1)), some (.ireturn, 13, 0, 0, 0), some (.aload_n 0, 14, 0, 0, 0), some (.getfield 35, 17, 703, 412, 1), none, none, some (.iload_n 1, 18, 0, 0, 0), some (.invokevirtual 115, 21, 30, 482, 0), none, none, some (.astore_n 3, 22, 0, 0, 0), some (.iload_n 2, 23, 0, 0, 0), some (.tableswitch 80 0 5 #[37, 42, 47, 52, 57, 62], 60, 0, 0, 0), none, none, none, none, none, none, none, none, none, none, none, none, none, none, none, none, none, none, none, none, none, none, none, none, none, none, none, none, none, none, none, none, none, none, none, none, some (.aload_n 3, 61, 0, 0, 0), some (.getfield 119, 64, 100, 117, 0), none, none, some (.ireturn, 65, 0, 0, 0), some (.aload_n 3, 66, 0, 0, 0), some (.getfield 125, 69, 101, 119, 0), none, none, some (.ireturn, 70, 0, 0, 0), some (.aload_n 3, 71, 0, 0, 0), some (.getfield 128, 74, 102, 122, 0), none, none, some (.ireturn, 75, 0, 0, 0), some (.aload_n 3, 76, 0, 0, 0), some (.getfield 131, 79, 103, 125, 0), none, none, some (.ireturn, 80, 0, 0, 0), some (.aload_n 3, 81, 0, 0, 0), some (.getfield 134, 84, 104, 128, 0), none, none, some (.ireturn, 85, 0, 0, 0), some (.aload_n 3, 86, 0, 0, 0), some (.getfield 125, 89, 101, 119, 0), none, none, some (.iconst 2, 90, 0, 0, 2), some (.if_icmp .ne 10, 93, 100, 0, 0), none, none, some (.aload_n 3, 94, 0, 0, 0), some (.getfield 137, 97, 105, 130, 0), none, none, some (.goto 5, 100, 102, 0, 0), none, none, some (.bipush (-4), 102, 0, 0, (-4)), none, some (.ireturn, 103, 0, 0, 0), some (.iconst (-1), 104, 0, 0, (-1)), some (.ireturn, 105, 0, 0, 0)]
/-- NeedleTelegraphModel.isMessage -/
abbrev m_84 : Mth := (yX9_isMessage, cX9_isMessage, 2, (some .boolean), 2, false, 8)
def c_84 : List (Option Ent) := [some (.iload_n 1, 1, 0, 0, 0), some (.iconst 0, 2, 0, 0, 0), some (.aload_n 0, 3, 0, 0, 0), some (.getfield 40, 6, 816, 791, 1), none, none, some (.iconst 2, 7, 0, 0, 2), some (.iaload, 8, 0, 0, 0), some (.iconst 1, 9, 0, 0, 1), some (.isub, 10, 0, 0, 0), some (.invokestatic 73, 13, 59, 855, 0), none, none, some (.ireturn, 14, 0, 0, 0)]
/-- NeedleTelegraphModel.message -/
abbrev m_85 : Mth := (yX9_message, cX9_message, 3, (some .int), 3, false, 8)
def c_85 : List (Option Ent) := [some (.aload_n 0, 1, 0, 0, 0), some (.iload_n 1, 2, 0, 0, 0), some (.invokevirtual 146, 5, 84, 917, 0), none, none, some (.ifCond .eq 24, 8, 29, 0, 0), none, none, some (.iload_n 2, 9, 0, 0, 0), some (.iconst 0, 10, 0, 0, 0), some (.iconst 5, 11, 0, 0, 5), some (.invokestatic 73, 14, 59, 855, 0), none, none, some (.ifCond .eq 15, 17, 29, 0, 0), none, none, some (.aload_n 0, 18, 0, 0, 0), some (.getfield 40, 21, 816, 791, 1), none, none, some (.iload_n 1, 22, 0, 0, 0), some (.iload_n 2, 23, 0, 0, 0), some (.invokestatic 135, 26, 79, 910, 0), none, none, some (.goto 4, 29, 30, 0, 0), none, none, some (.iconst (-1), 30, 0, 0, (-1)), some (.ireturn, 31, 0, 0, 0)]
/-- NeedleTelegraph$Rows.length -/
abbrev m_86 : Mth := (yX5_length, cX5_length, 2, (some .int), 1, true, 60)
def c_86 : List (Option Ent) := [some (.iconst 0, 1, 0, 0, 0), some (.istore_n 1, 2, 0, 0, 0), some (.iload_n 1, 3, 0, 0, 0), some (.bipush 8, 5, 0, 0, 8), none, some (.if_icmp .ge 17, 8, 22, 0, 0), none, none, some (.iload_n 0, 9, 0, 0, 0), some (.iconst 2, 10, 0, 0, 2), some (.iload_n 1, 11, 0, 0, 0), some (.imul, 12, 0, 0, 0), some (.ishr, 13, 0, 0, 0), some (.ifCond .le 9, 16, 22, 0, 0), none, none, some (.iinc 1 1, 19, 0, 0, 1), none, none, some (.goto (-17), 22, 2, 0, 0), none, none, some (.iload_n 1, 23, 0, 0, 0), some (.ireturn, 24, 0, 0, 0)]
/-- NeedleTelegraph$Rows.stitch -/
abbrev m_87 : Mth := (yX5_stitch, cX5_stitch, 2, (some .int), 2, true, 60)
def c_87 : List (Option Ent) := [some (.iload_n 0, 1, 0, 0, 0), some (.iconst 2, 2, 0, 0, 2), some (.iload_n 1, 3, 0, 0, 0), some (.imul, 4, 0, 0, 0), some (.ishr, 5, 0, 0, 0), some (.iconst 3, 6, 0, 0, 3), some (.iand, 7, 0, 0, 0), some (.ireturn, 8, 0, 0, 0)]
/-- NeedleTelegraph$Rows.isRow -/
abbrev m_88 : Mth := (yX5_isRow, cX5_isRow, 2, (some .boolean), 1, true, 60)
def c_88 : List (Option Ent) := [some (.iload_n 0, 1, 0, 0, 0), some (.iconst 1, 2, 0, 0, 1), some (.ldc 9, 4, 0, 493, 65535), none, some (.invokestatic 10, 7, 22, 494, 1), none, none, some (.ifCond .ne 5, 10, 12, 0, 0), none, none, some (.iconst 0, 11, 0, 0, 0), some (.ireturn, 12, 0, 0, 0), some (.iload_n 0, 13, 0, 0, 0), some (.invokestatic 14, 16, 86, 495, 0), none, none, some (.iconst 1, 17, 0, 0, 1), some (.isub, 18, 0, 0, 0), some (.istore_n 1, 19, 0, 0, 0), some (.iload_n 1, 20, 0, 0, 0), some (.ifCond .lt 19, 23, 39, 0, 0), none, none, some (.iload_n 0, 24, 0, 0, 0), some (.iload_n 1, 25, 0, 0, 0), some (.invokestatic 20, 28, 87, 498, 0), none, none, some (.ifCond .ne 5, 31, 33, 0, 0), none, none, some (.iconst 0, 32, 0, 0, 0), some (.ireturn, 33, 0, 0, 0), some (.iinc 1 (-1), 36, 0, 0, (-1)), none, none, some (.goto (-17), 39, 19, 0, 0), none, none, some (.iconst 1, 40, 0, 0, 1), some (.ireturn, 41, 0, 0, 0)]
/-- NeedleTelegraph$Rows.isRowOrEmpty -/
abbrev m_89 : Mth := (yX5_isRowOrEmpty, cX5_isRowOrEmpty, 1, (some .boolean), 1, true, 60)
def c_89 : List (Option Ent) := [some (.iload_n 0, 1, 0, 0, 0), some (.ifCond .eq 10, 4, 11, 0, 0), none, none, some (.iload_n 0, 5, 0, 0, 0), some (.invokestatic 24, 8, 88, 490, 0), none, none, some (.ifCond .eq 7, 11, 15, 0, 0), none, none, some (.iconst 1, 12, 0, 0, 1), some (.goto 4, 15, 16, 0, 0), none, none, some (.iconst 0, 16, 0, 0, 0), some (.ireturn, 17, 0, 0, 0)]
/-- NeedleTelegraph$Rows.withoutEachThird -/
abbrev m_90 : Mth := (yX5_withoutEachThird, cX5_withoutEachThird, 4, (some .int), 1, true, 60)
def c_90 : List (Option Ent) := [some (.iload_n 0, 1, 0, 0, 0), some (.invokestatic 14, 4, 86, 495, 0), none, none, some (.istore_n 1, 5, 0, 0, 0), some (.iconst 0, 6, 0, 0, 0), some (.istore_n 2, 7, 0, 0, 0), some (.iconst 1, 8, 0, 0, 1), some (.istore_n 3, 9, 0, 0, 0), some (.iload_n 3, 10, 0, 0, 0), some (.iload_n 1, 11, 0, 0, 0), some (.if_icmp .gt 27, 14, 38, 0, 0), none, none, some (.iload_n 3, 15, 0, 0, 0), some (.iconst 3, 16, 0, 0, 3), some (.irem, 17, 0, 0, 0), some (.ifCond .eq 15, 20, 32, 0, 0), none, none, some (.iload_n 2, 21, 0, 0, 0), some (.iload_n 0, 22, 0, 0, 0), some (.iload_n 1, 23, 0, 0, 0), some (.iload_n 3, 24, 0, 0, 0), some (.isub, 25, 0, 0, 0), some (.invokestatic 20, 28, 87, 498, 0), none, none, some (.invokestatic 31, 31, 27, 507, 0), none, none, some (.istore_n 2, 32, 0, 0, 0), some (.iinc 3 1, 35, 0, 0, 1), none, none, some (.goto (-26), 38, 9, 0, 0), none, none, some (.iload_n 2, 39, 0, 0, 0), some (.ireturn, 40, 0, 0, 0)]
/-- NeedleTelegraph$Rows.misheard -/
abbrev m_91 : Mth := (yX5_misheard, cX5_misheard, 4, (some .int), 1, true, 60)
def c_91 : List (Option Ent) := [some (.iconst 0, 1, 0, 0, 0), some (.istore_n 1, 2, 0, 0, 0), some (.iload_n 0, 3, 0, 0, 0), some (.invokestatic 14, 6, 86, 495, 0), none, none, some (.iconst 1, 7, 0, 0, 1), some (.isub, 8, 0, 0, 0), some (.istore_n 2, 9, 0, 0, 0), some (.iload_n 2, 10, 0, 0, 0), some (.ifCond .lt 39, 13, 49, 0, 0), none, none, some (.iload_n 0, 14, 0, 0, 0), some (.iload_n 2, 15, 0, 0, 0), some (.invokestatic 20, 18, 87, 498, 0), none, none, some (.istore_n 3, 19, 0, 0, 0), some (.iload_n 1, 20, 0, 0, 0), some (.iload_n 3, 21, 0, 0, 0), some (.iconst 1, 22, 0, 0, 1), some (.if_icmp .ne 7, 25, 29, 0, 0), none, none, some (.iconst 2, 26, 0, 0, 2), some (.goto 13, 29, 39, 0, 0), none, none, some (.iload_n 3, 30, 0, 0, 0), some (.iconst 2, 31, 0, 0, 2), some (.if_icmp .ne 7, 34, 38, 0, 0), none, none, some (.iconst 1, 35, 0, 0, 1), some (.goto 4, 38, 39, 0, 0), none, none, some (.iload_n 3, 39, 0, 0, 0), some (.invokestatic 31, 42, 27, 507, 0), none, none, some (.istore_n 1, 43, 0, 0, 0), some (.iinc 2 (-1), 46, 0, 0, (-1)), none, none, some (.goto (-37), 49, 9, 0, 0), none, none, some (.iload_n 1, 50, 0, 0, 0), some (.ireturn, 51, 0, 0, 0)]
/-- NeedleTelegraph$Rows.knitted -/
abbrev m_92 : Mth := (yX5_knitted, cX5_knitted, 2, (some .int), 2, true, 60)
def c_92 : List (Option Ent) := [some (.iload_n 0, 1, 0, 0, 0), some (.tableswitch 76 1 4 #[31, 36, 55, 60], 32, 0, 0, 0), none, none, none, none, none, none, none, none, none, none, none, none, none, none, none, none, none, none, none, none, none, none, none, none, none, none, none, none, none, none, some (.iload_n 1, 33, 0, 0, 0), some (.invokestatic 28, 36, 90, 504, 0), none, none, some (.ireturn, 37, 0, 0, 0), some (.iload_n 1, 38, 0, 0, 0), some (.invokestatic 14, 41, 86, 495, 0), none, none, some (.bipush 8, 43, 0, 0, 8), none, some (.if_icmp .ge 11, 46, 54, 0, 0), none, none, some (.iload_n 1, 47, 0, 0, 0), some (.iconst 2, 48, 0, 0, 2), some (.invokestatic 31, 51, 27, 507, 0), none, none, some (.goto 4, 54, 55, 0, 0), none, none, some (.iload_n 1, 55, 0, 0, 0), some (.ireturn, 56, 0, 0, 0), some (.iload_n 1, 57, 0, 0, 0), some (.invokestatic 34, 60, 91, 508, 0), none, none, some (.ireturn, 61, 0, 0, 0), some (.iload_n 1, 62, 0, 0, 0), some (.ifCond .ne 7, 65, 69, 0, 0), none, none, some (.iconst 0, 66, 0, 0, 0), some (.goto 10, 69, 76, 0, 0), none, none, some (.iload_n 1, 70, 0, 0, 0), some (.iconst 4, 71, 0, 0, 4), some (.idiv, 72, 0, 0, 0), some (.iconst 3, 73, 0, 0, 3), some (.invokestatic 31, 76, 27, 507, 0), none, none, some (.ireturn, 77, 0, 0, 0), some (.iload_n 1, 78, 0, 0, 0), some (.ireturn, 79, 0, 0, 0)]
/-- NeedleTelegraph.knit -/
abbrev m_93 : Mth := (yX8_knit, cX8_knit, 3, (some .int), 3, false, 7)
def c_93 : List (Option Ent) := [some (.aload_n 0, 1, 0, 0, 0), some (.getfield 28, 4, 702, 411, 1), none, none, some (.iload_n 1, 5, 0, 0, 0), some (.invokevirtual 95, 8, 29, 461, 0), none, none, some (.ifCond .eq 10, 11, 18, 0, 0), none, none, some (.iload_n 2, 12, 0, 0, 0), some (.invokestatic 140, 15, 89, 487, 0), none, none, some (.ifCond .ne 5, 18, 20, 0, 0), none, none, some (.iconst (-1), 19, 0, 0, (-1)), some (.ireturn, 20, 0, 0, 0), some (.aload_n 0, 21, 0, 0, 0), some (.getfield 28, 24, 702, 411, 1), none, none, some (.iload_n 1, 25, 0, 0, 0), some (.invokevirtual 98, 28, 41, 462, 0), none, none, some (.iload_n 2, 29, 0, 0, 0), some (.invokestatic 145, 32, 92, 501, 0), none, none, some (.ireturn, 33, 0, 0, 0)]
/-- NeedleTelegraphModel.isRow -/
abbrev m_94 : Mth := (yX9_isRow, cX9_isRow, 3, (some .boolean), 1, true, 8)
def c_94 : List (Option Ent) := [some (.iload_n 0, 1, 0, 0, 0), some (.iconst 1, 2, 0, 0, 1), some (.ldc 72, 4, 0, 928, 65535), none, some (.invokestatic 73, 7, 59, 855, 0), none, none, some (.istore_n 1, 8, 0, 0, 0), some (.iload_n 0, 9, 0, 0, 0), some (.istore_n 2, 10, 0, 0, 0), some (.iload_n 2, 11, 0, 0, 0), some (.ifCond .le 26, 14, 37, 0, 0), none, none, some (.iload_n 1, 15, 0, 0, 0), some (.ifCond .eq 22, 18, 37, 0, 0), none, none, some (.iload_n 2, 19, 0, 0, 0), some (.iconst 4, 20, 0, 0, 4), some (.irem, 21, 0, 0, 0), some (.ifCond .le 7, 24, 28, 0, 0), none, none, some (.iconst 1, 25, 0, 0, 1), some (.goto 4, 28, 29, 0, 0), none, none, some (.iconst 0, 29, 0, 0, 0), some (.istore_n 1, 30, 0, 0, 0), some (.iload_n 2, 31, 0, 0, 0), some (.iconst 4, 32, 0, 0, 4), some (.idiv, 33, 0, 0, 0), some (.istore_n 2, 34, 0, 0, 0), some (.goto (-24), 37, 10, 0, 0), none, none, some (.iload_n 1, 38, 0, 0, 0), some (.ireturn, 39, 0, 0, 0)]
/-- NeedleTelegraphModel.lengthOf -/
abbrev m_95 : Mth := (yX9_lengthOf, cX9_lengthOf, 3, (some .int), 1, true, 8)
def c_95 : List (Option Ent) := [some (.iconst 0, 1, 0, 0, 0), some (.istore_n 1, 2, 0, 0, 0), some (.iload_n 0, 3, 0, 0, 0), some (.istore_n 2, 4, 0, 0, 0), some (.iload_n 2, 5, 0, 0, 0), some (.ifCond .le 13, 8, 18, 0, 0), none, none, some (.iinc 1 1, 11, 0, 0, 1), none, none, some (.iload_n 2, 12, 0, 0, 0), some (.iconst 4, 13, 0, 0, 4), some (.idiv, 14, 0, 0, 0), some (.istore_n 2, 15, 0, 0, 0), some (.goto (-11), 18, 4, 0, 0), none, none, some (.iload_n 1, 19, 0, 0, 0), some (.ireturn, 20, 0, 0, 0)]
/-- NeedleTelegraphModel.power -/
abbrev m_96 : Mth := (yX9_power, cX9_power, 3, (some .int), 1, true, 8)
def c_96 : List (Option Ent) := [some (.iconst 1, 1, 0, 0, 1), some (.istore_n 1, 2, 0, 0, 0), some (.iconst 0, 3, 0, 0, 0), some (.istore_n 2, 4, 0, 0, 0), some (.iload_n 2, 5, 0, 0, 0), some (.iload_n 0, 6, 0, 0, 0), some (.if_icmp .ge 13, 9, 19, 0, 0), none, none, some (.iload_n 1, 10, 0, 0, 0), some (.iconst 4, 11, 0, 0, 4), some (.imul, 12, 0, 0, 0), some (.istore_n 1, 13, 0, 0, 0), some (.iinc 2 1, 16, 0, 0, 1), none, none, some (.goto (-12), 19, 4, 0, 0), none, none, some (.iload_n 1, 20, 0, 0, 0), some (.ireturn, 21, 0, 0, 0)]
/-- NeedleTelegraphModel.knitBy -/
abbrev m_97 : Mth := (yX9_knitBy, cX9_knitBy, 7, (some .int), 2, true, 8)
def c_97 : List (Option Ent) := [some (.iload_n 1, 1, 0, 0, 0), some (.invokestatic 77, 4, 95, 932, 0), none, none, some (.istore_n 2, 5, 0, 0, 0), some (.iload_n 0, 6, 0, 0, 0), some (.tableswitch 168 1 4 #[30, 79, 95, 152], 36, 0, 0, 0), none, none, none, none, none, none, none, none, none, none, none, none, none, none, none, none, none, none, none, none, none, none, none, none, none, none, none, none, none, some (.iconst 0, 37, 0, 0, 0), some (.istore_n 3, 38, 0, 0, 0), some (.iconst 0, 39, 0, 0, 0), some (.istore 4, 41, 0, 0, 0), none, some (.iload 4, 43, 0, 0, 0), none, some (.iload_n 2, 44, 0, 0, 0), some (.if_icmp .ge 39, 47, 83, 0, 0), none, none, some (.iload 4, 49, 0, 0, 0), none, some (.iconst 3, 50, 0, 0, 3), some (.irem, 51, 0, 0, 0), some (.iconst 2, 52, 0, 0, 2), some (.if_icmp .ne 7, 55, 59, 0, 0), none, none, some (.iload_n 3, 56, 0, 0, 0), some (.goto 20, 59, 76, 0, 0), none, none, some (.iconst 4, 60, 0, 0, 4), some (.iload_n 3, 61, 0, 0, 0), some (.imul, 62, 0, 0, 0), some (.iload_n 1, 63, 0, 0, 0), some (.iload_n 2, 64, 0, 0, 0), some (.iconst 1, 65, 0, 0, 1), some (.isub, 66, 0, 0, 0), some (.iload 4, 68, 0, 0, 0), none, some (.isub, 69, 0, 0, 0), some (.invokestatic 81, 72, 96, 935, 0), none, none, some (.idiv, 73, 0, 0, 0), some (.iconst 4, 74, 0, 0, 4), some (.irem, 75, 0, 0, 0), some (.iadd, 76, 0, 0, 0), some (.istore_n 3, 77, 0, 0, 0), some (.iinc 4 1, 80, 0, 0, 1), none, none, some (.goto (-39), 83, 41, 0, 0), none, none, some (.iload_n 3, 84, 0, 0, 0), some (.ireturn, 85, 0, 0, 0), some (.iload_n 2, 86, 0, 0, 0), some (.bipush 8, 88, 0, 0, 8), none, some (.if_icmp .ge 11, 91, 99, 0, 0), none, none, some (.iconst 4, 92, 0, 0, 4), some (.iload_n 1, 93, 0, 0, 0), some (.imul, 94, 0, 0, 0), some (.iconst 2, 95, 0, 0, 2), some (.iadd, 96, 0, 0, 0), some (.goto 4, 99, 100, 0, 0), none, none, some (.iload_n 1, 100, 0, 0, 0), some (.ireturn, 101, 0, 0, 0), some (.iconst 0, 102, 0, 0, 0), some (.istore 4, 104, 0, 0, 0), none, some (.iconst 0, 105, 0, 0, 0), some (.istore 5, 107, 0, 0, 0), none, some (.iload 5, 109, 0, 0, 0), none, some (.iload_n 2, 110, 0, 0, 0), some (.if_icmp .ge 45, 113, 155, 0, 0), none, none, some (.iload_n 1, 114, 0, 0, 0), some (.iload_n 2, 115, 0, 0, 0), some (.iconst 1, 116, 0, 0, 1), some (.isub, 117, 0, 0, 0), some (.iload 5, 119, 0, 0, 0), none, some (.isub, 120, 0, 0, 0), some (.invokestatic 81, 123, 96, 935, 0), none, none, some (.idiv, 124, 0, 0, 0), some (.iconst 4, 125, 0, 0, 4), some (.irem, 126, 0, 0, 0), some (.istore 6, 128, 0, 0, 0), none, some (.iconst 4, 129, 0, 0, 4), some (.iload 4, 131, 0, 0, 0), none, some (.imul, 132, 0, 0, 0), some (.iload 6, 134, 0, 0, 0), none, some (.iconst 3, 135, 0, 0, 3), some (.if_icmp .ne 7, 138, 142, 0, 0), none, none, some (.iconst 3, 139, 0, 0, 3), some (.goto 7, 142, 146, 0, 0), none, none, some (.iconst 3, 143, 0, 0, 3), some (.iload 6, 145, 0, 0, 0), none, some (.isub, 146, 0, 0, 0), some (.iadd, 147, 0, 0, 0), some (.istore 4, 149, 0, 0, 0), none, some (.iinc 5 1, 152, 0, 0, 1), none, none, some (.goto (-45), 155, 107, 0, 0), none, none, some (.iload 4, 157, 0, 0, 0), none, some (.ireturn, 158, 0, 0, 0), some (.iload_n 2, 159, 0, 0, 0), some (.ifCond .ne 7, 162, 166, 0, 0), none, none, some (.iconst 0, 163, 0, 0, 0), some (.goto 10, 166, 173, 0, 0), none, none, some (.iload_n 1, 167, 0, 0, 0), some (.iload_n 1, 168, 0, 0, 0), some (.iconst 4, 169, 0, 0, 4), some (.irem, 170, 0, 0, 0), some (.isub, 171, 0, 0, 0), some (.iconst 3, 172, 0, 0, 3), some (.iadd, 173, 0, 0, 0), some (.ireturn, 174, 0, 0, 0), some (.iload_n 1, 175, 0, 0, 0), some (.ireturn, 176, 0, 0, 0)]
/-- NeedleTelegraphModel.knit -/
abbrev m_98 : Mth := (yX9_knit, cX9_knit, 3, (some .int), 3, false, 8)
def c_98 : List (Option Ent) := [some (.aload_n 0, 1, 0, 0, 0), some (.iload_n 1, 2, 0, 0, 0), some (.invokevirtual 139, 5, 78, 902, 0), none, none, some (.ifCond .eq 27, 8, 32, 0, 0), none, none, some (.iload_n 2, 9, 0, 0, 0), some (.ifCond .eq 10, 12, 19, 0, 0), none, none, some (.iload_n 2, 13, 0, 0, 0), some (.invokestatic 149, 16, 94, 925, 0), none, none, some (.ifCond .eq 16, 19, 32, 0, 0), none, none, some (.aload_n 0, 20, 0, 0, 0), some (.getfield 31, 23, 813, 788, 1), none, none, some (.iload_n 1, 24, 0, 0, 0), some (.iaload, 25, 0, 0, 0), some (.iload_n 2, 26, 0, 0, 0), some (.invokestatic 152, 29, 97, 929, 0), none, none, some (.goto 4, 32, 33, 0, 0), none, none, some (.iconst (-1), 33, 0, 0, (-1)), some (.ireturn, 34, 0, 0, 0)]
/-- NeedleTelegraph$Pile.dropOldest -/
abbrev m_99 : Mth := (yX3_dropOldest, cX3_dropOldest, 3, none, 1, false, 3)
def c_99 : List (Option Ent) := [some (.aload_n 0, 1, 0, 0, 0), some (.getfield 15, 4, 300, 191, 1), none, none, some (.arraylength, 5, 0, 0, 0), some (.ifCond .ne 4, 8, 9, 0, 0), none, none, some (.return_, 9, 0, 0, 0), some (.aload_n 0, 10, 0, 0, 0), some (.getfield 15, 13, 300, 191, 1), none, none, some (.iconst 0, 14, 0, 0, 0), some (.aaload, 15, 0, 0, 0), some (.astore_n 1, 16, 0, 0, 0), some (.iconst 1, 17, 0, 0, 1), some (.istore_n 2, 18, 0, 0, 0), some (.iload_n 2, 19, 0, 0, 0), some (.aload_n 0, 20, 0, 0, 0), some (.getfield 15, 23, 300, 191, 1), none, none, some (.arraylength, 24, 0, 0, 0), some (.if_icmp .ge 23, 27, 47, 0, 0), none, none, some (.aload_n 0, 28, 0, 0, 0), some (.getfield 15, 31, 300, 191, 1), none, none, some (.iload_n 2, 32, 0, 0, 0), some (.iconst 1, 33, 0, 0, 1), some (.isub, 34, 0, 0, 0), some (.aload_n 0, 35, 0, 0, 0), some (.getfield 15, 38, 300, 191, 1), none, none, some (.iload_n 2, 39, 0, 0, 0), some (.aaload, 40, 0, 0, 0), some (.aastore, 41, 0, 0, 0), some (.iinc 2 1, 44, 0, 0, 1), none, none, some (.goto (-26), 47, 18, 0, 0), none, none, some (.aload_n 0, 48, 0, 0, 0), some (.getfield 15, 51, 300, 191, 1), none, none, some (.aload_n 0, 52, 0, 0, 0), some (.getfield 15, 55, 300, 191, 1), none, none, some (.arraylength, 56, 0, 0, 0), some (.iconst 1, 57, 0, 0, 1), some (.isub, 58, 0, 0, 0), some (.aload_n 1, 59, 0, 0, 0), some (.aastore, 60, 0, 0, 0), some (.aload_n 0, 61, 0, 0, 0), some (.aload_n 0, 62, 0, 0, 0), some (.getfield 15, 65, 300, 191, 1), none, none, some (.arraylength, 66, 0, 0, 0), some (.iconst 1, 67, 0, 0, 1), some (.isub, 68, 0, 0, 0), some (.putfield 22, 71, 301, 192, 0), none, none, some (.return_, 72, 0, 0, 0)]
/-- NeedleTelegraph$Pile.put -/
abbrev m_100 : Mth := (yX3_put, cX3_put, 3, none, 2, false, 3)
def c_100 : List (Option Ent) := [some (.aload_n 0, 1, 0, 0, 0), some (.getfield 22, 4, 301, 192, 0), none, none, some (.aload_n 0, 5, 0, 0, 0), some (.getfield 15, 8, 300, 191, 1), none, none, some (.arraylength, 9, 0, 0, 0), some (.if_icmp .lt 7, 12, 16, 0, 0), none, none, some (.aload_n 0, 13, 0, 0, 0), some (.invokevirtual 26, 16, 99, 519, 0), none, none, some (.aload_n 0, 17, 0, 0, 0), some (.getfield 22, 20, 301, 192, 0), none, none, some (.ifCond .lt 27, 23, 47, 0, 0), none, none, some (.aload_n 0, 24, 0, 0, 0), some (.getfield 22, 27, 301, 192, 0), none, none, some (.aload_n 0, 28, 0, 0, 0), some (.getfield 15, 31, 300, 191, 1), none, none, some (.arraylength, 32, 0, 0, 0), some (.if_icmp .ge 15, 35, 47, 0, 0), none, none, some (.aload_n 0, 36, 0, 0, 0), some (.getfield 15, 39, 300, 191, 1), none, none, some (.aload_n 0, 40, 0, 0, 0), some (.getfield 22, 43, 301, 192, 0), none, none, some (.aaload, 44, 0, 0, 0), some (.goto 4, 47, 48, 0, 0), none, none, some (.aconst_null, 48, 0, 0, 0), some (.astore_n 2, 49, 0, 0, 0), some (.aload_n 2, 50, 0, 0, 0), some (.ifnonnull 4, 53, 54, 0, 0), none, none, some (.return_, 54, 0, 0, 0), some (.aload_n 2, 55, 0, 0, 0), some (.aload_n 1, 56, 0, 0, 0), some (.invokevirtual 29, 59, 46, 523, 0), none, none, some (.aload_n 0, 60, 0, 0, 0), some (.dup, 61, 0, 0, 0), some (.getfield 22, 64, 301, 192, 0), none, none, some (.iconst 1, 65, 0, 0, 1), some (.iadd, 66, 0, 0, 0), some (.putfield 22, 69, 301, 192, 0), none, none, some (.return_, 70, 0, 0, 0)]
/-- NeedleTelegraph$Valley.isAtSea -/
abbrev m_101 : Mth := (yX7_isAtSea, cX7_isAtSea, 2, (some .boolean), 2, false, 6)
def c_101 : List (Option Ent) := [some (.aload_n 0, 1, 0, 0, 0), some (.iload_n 1, 2, 0, 0, 0), some (.invokevirtual 29, 5, 43, 384, 0), none, none, some (.iload_n 1, 6, 0, 0, 0), some (.if_icmp .ne 7, 9, 13, 0, 0), none, none, some (.iconst 1, 10, 0, 0, 1), some (.goto 4, 13, 14, 0, 0), none, none, some (.iconst 0, 14, 0, 0, 0), some (.ireturn, 15, 0, 0, 0)]
/-- NeedleTelegraph$Message.knitOn -/
abbrev m_102 : Mth := (yX1_knitOn, cX1_knitOn, 3, none, 3, false, 1)
def c_102 : List (Option Ent) := [some (.aload_n 0, 1, 0, 0, 0), some (.aload_n 1, 2, 0, 0, 0), some (.aload_n 0, 3, 0, 0, 0), some (.getfield 18, 6, 102, 121, 0), none, none, some (.invokevirtual 44, 9, 41, 538, 0), none, none, some (.aload_n 0, 10, 0, 0, 0), some (.getfield 21, 13, 103, 124, 0), none, none, some (.invokestatic 47, 16, 92, 539, 0), none, none, some (.putfield 21, 19, 103, 124, 0), none, none, some (.aload_n 1, 20, 0, 0, 0), some (.aload_n 0, 21, 0, 0, 0), some (.getfield 18, 24, 102, 121, 0), none, none, some (.invokevirtual 53, 27, 101, 540, 0), none, none, some (.ifCond .eq 16, 30, 43, 0, 0), none, none, some (.aload_n 0, 31, 0, 0, 0), some (.iconst 2, 32, 0, 0, 2), some (.putfield 15, 35, 101, 118, 0), none, none, some (.aload_n 0, 36, 0, 0, 0), some (.iload_n 2, 37, 0, 0, 0), some (.putfield 27, 40, 105, 129, 0), none, none, some (.goto 15, 43, 55, 0, 0), none, none, some (.aload_n 0, 44, 0, 0, 0), some (.aload_n 1, 45, 0, 0, 0), some (.aload_n 0, 46, 0, 0, 0), some (.getfield 18, 49, 102, 121, 0), none, none, some (.invokevirtual 57, 52, 43, 544, 0), none, none, some (.putfield 18, 55, 102, 121, 0), none, none, some (.return_, 56, 0, 0, 0)]
/-- NeedleTelegraph$Message.goThroughMinute -/
abbrev m_103 : Mth := (yX1_goThroughMinute, cX1_goThroughMinute, 4, none, 4, false, 1)
def c_103 : List (Option Ent) := [some (.aload_n 0, 1, 0, 0, 0), some (.getfield 15, 4, 101, 118, 0), none, none, some (.ifCond .ne 16, 7, 20, 0, 0), none, none, some (.aload_n 0, 8, 0, 0, 0), some (.getfield 9, 11, 100, 116, 0), none, none, some (.iload_n 2, 12, 0, 0, 0), some (.if_icmp .ne 8, 15, 20, 0, 0), none, none, some (.aload_n 0, 16, 0, 0, 0), some (.iconst 1, 17, 0, 0, 1), some (.putfield 15, 20, 101, 118, 0), none, none, some (.aload_n 0, 21, 0, 0, 0), some (.getfield 15, 24, 101, 118, 0), none, none, some (.iconst 1, 25, 0, 0, 1), some (.if_icmp .eq 4, 28, 29, 0, 0), none, none, some (.return_, 29, 0, 0, 0), some (.aload_n 0, 30, 0, 0, 0), some (.getfield 24, 33, 104, 127, 0), none, none, some (.ifCond .ne 26, 36, 59, 0, 0), none, none, some (.iload_n 3, 37, 0, 0, 0), some (.aload_n 0, 38, 0, 0, 0), some (.getfield 18, 41, 102, 121, 0), none, none, some (.invokestatic 30, 44, 34, 532, 1), none, none, some (.ifCond .ne 15, 47, 59, 0, 0), none, none, some (.aload_n 0, 48, 0, 0, 0), some (.aload_n 1, 49, 0, 0, 0), some (.aload_n 0, 50, 0, 0, 0), some (.getfield 18, 53, 102, 121, 0), none, none, some (.invokevirtual 34, 56, 42, 533, 0), none, none, some (.putfield 24, 59, 104, 127, 0), none, none, some (.aload_n 0, 60, 0, 0, 0), some (.getfield 24, 63, 104, 127, 0), none, none, some (.ifCond .ne 4, 66, 67, 0, 0), none, none, some (.return_, 67, 0, 0, 0), some (.aload_n 0, 68, 0, 0, 0), some (.dup, 69, 0, 0, 0), some (.getfield 24, 72, 104, 127, 0), none, none, some (.iconst 1, 73, 0, 0, 1), some (.isub, 74, 0, 0, 0), some (.putfield 24, 77, 104, 127, 0), none, none, some (.aload_n 0, 78, 0, 0, 0), some (.getfield 24, 81, 104, 127, 0), none, none, some (.ifCond .ne 9, 84, 90, 0, 0), none, none, some (.aload_n 0, 85, 0, 0, 0), some (.aload_n 1, 86, 0, 0, 0), some (.iload_n 2, 87, 0, 0, 0), some (.invokevirtual 40, 90, 102, 534, 0), none, none, some (.return_, 91, 0, 0, 0)]
/-- NeedleTelegraph$Moment.goThroughMinute -/
abbrev m_104 : Mth := (yX2_goThroughMinute, cX2_goThroughMinute, 3, none, 2, false, 2)
def c_104 : List (Option Ent) := [some (.iconst 0, 1, 0, 0, 0), some (.istore_n 2, 2, 0, 0, 0), some (.iload_n 2, 3, 0, 0, 0), some (.aload_n 0, 4, 0, 0, 0), some (.getfield 22, 7, 202, 146, 0), none, none, some (.if_icmp .ge 26, 10, 33, 0, 0), none, none, some (.aload_n 0, 11, 0, 0, 0), some (.iload_n 2, 12, 0, 0, 0), some (.invokevirtual 32, 15, 30, 341, 0), none, none, some (.aload_n 1, 16, 0, 0, 0), some (.aload_n 0, 17, 0, 0, 0), some (.getfield 26, 20, 203, 147, 0), none, none, some (.aload_n 0, 21, 0, 0, 0), some (.getfield 29, 24, 204, 148, 0), none, none, some (.invokevirtual 54, 27, 103, 528, 0), none, none, some (.iinc 2 1, 30, 0, 0, 1), none, none, some (.goto (-28), 33, 2, 0, 0), none, none, some (.aload_n 0, 34, 0, 0, 0), some (.dup, 35, 0, 0, 0), some (.getfield 26, 38, 203, 147, 0), none, none, some (.iconst 1, 39, 0, 0, 1), some (.iadd, 40, 0, 0, 0), some (.putfield 26, 43, 203, 147, 0), none, none, some (.return_, 44, 0, 0, 0)]
/-- NeedleTelegraph$Moment.howManyAre -/
abbrev m_105 : Mth := (yX2_howManyAre, cX2_howManyAre, 4, (some .int), 2, false, 2)
def c_105 : List (Option Ent) := [some (.iconst 0, 1, 0, 0, 0), some (.istore_n 2, 2, 0, 0, 0), some (.iconst 0, 3, 0, 0, 0), some (.istore_n 3, 4, 0, 0, 0), some (.iload_n 3, 5, 0, 0, 0), some (.aload_n 0, 6, 0, 0, 0), some (.getfield 22, 9, 202, 146, 0), none, none, some (.if_icmp .ge 29, 12, 38, 0, 0), none, none, some (.iload_n 2, 13, 0, 0, 0), some (.aload_n 0, 14, 0, 0, 0), some (.iload_n 3, 15, 0, 0, 0), some (.invokevirtual 32, 18, 30, 341, 0), none, none, some (.getfield 62, 21, 101, 120, 0), none, none, some (.iload_n 1, 22, 0, 0, 0), some (.if_icmp .ne 7, 25, 29, 0, 0), none, none, some (.iconst 1, 26, 0, 0, 1), some (.goto 4, 29, 30, 0, 0), none, none, some (.iconst 0, 30, 0, 0, 0), some (.iadd, 31, 0, 0, 0), some (.istore_n 2, 32, 0, 0, 0), some (.iinc 3 1, 35, 0, 0, 1), none, none, some (.goto (-31), 38, 4, 0, 0), none, none, some (.iload_n 2, 39, 0, 0, 0), some (.ireturn, 40, 0, 0, 0)]
/-- NeedleTelegraph.pass -/
abbrev m_106 : Mth := (yX8_pass, cX8_pass, 3, (some .int), 2, false, 7)
def c_106 : List (Option Ent) := [some (.iload_n 1, 1, 0, 0, 0), some (.iconst 1, 2, 0, 0, 1), some (.bipush 60, 4, 0, 0, 60), none, some (.invokestatic 86, 7, 22, 439, 0), none, none, some (.ifCond .ne 5, 10, 12, 0, 0), none, none, some (.iconst (-1), 11, 0, 0, (-1)), some (.ireturn, 12, 0, 0, 0), some (.aload_n 0, 13, 0, 0, 0), some (.getfield 47, 16, 705, 414, 1), none, none, some (.aload_n 0, 17, 0, 0, 0), some (.getfield 35, 20, 703, 412, 1), none, none, some (.invokevirtual 149, 23, 100, 515, 0), none, none, some (.iconst 0, 24, 0, 0, 0), some (.istore_n 2, 25, 0, 0, 0), some (.iload_n 2, 26, 0, 0, 0), some (.iload_n 1, 27, 0, 0, 0), some (.if_icmp .ge 20, 30, 47, 0, 0), none, none, some (.aload_n 0, 31, 0, 0, 0), some (.getfield 35, 34, 703, 412, 1), none, none, some (.aload_n 0, 35, 0, 0, 0), some (.getfield 28, 38, 702, 411, 1), none, none, some (.invokevirtual 153, 41, 104, 524, 0), none, none, some (.iinc 2 1, 44, 0, 0, 1), none, none, some (.goto (-19), 47, 25, 0, 0), none, none, some (.aload_n 0, 48, 0, 0, 0), some (.getfield 35, 51, 703, 412, 1), none, none, some (.iconst 2, 52, 0, 0, 2), some (.invokevirtual 157, 55, 105, 545, 0), none, none, some (.ireturn, 56, 0, 0, 0)]
/-- NeedleTelegraphModel.remember -/
abbrev m_107 : Mth := (yX9_remember, cX9_remember, 2, none, 1, false, 8)
def c_107 : List (Option Ent) := [some (.iconst 0, 1, 0, 0, 0), some (.istore_n 1, 2, 0, 0, 0), some (.iload_n 1, 3, 0, 0, 0), some (.bipush 39, 5, 0, 0, 39), none, some (.if_icmp .ge 29, 8, 34, 0, 0), none, none, some (.aload_n 0, 9, 0, 0, 0), some (.getfield 46, 12, 820, 795, 1), none, none, some (.bipush 39, 14, 0, 0, 39), none, some (.aload_n 0, 15, 0, 0, 0), some (.getfield 164, 18, 819, 794, 0), none, none, some (.imul, 19, 0, 0, 0), some (.iload_n 1, 20, 0, 0, 0), some (.iadd, 21, 0, 0, 0), some (.aload_n 0, 22, 0, 0, 0), some (.getfield 40, 25, 816, 791, 1), none, none, some (.iload_n 1, 26, 0, 0, 0), some (.iaload, 27, 0, 0, 0), some (.iastore, 28, 0, 0, 0), some (.iinc 1 1, 31, 0, 0, 1), none, none, some (.goto (-29), 34, 2, 0, 0), none, none, some (.aload_n 0, 35, 0, 0, 0), some (.aload_n 0, 36, 0, 0, 0), some (.getfield 164, 39, 819, 794, 0), none, none, some (.iconst 1, 40, 0, 0, 1), some (.iadd, 41, 0, 0, 0), some (.bipush 8, 43, 0, 0, 8), none, some (.irem, 44, 0, 0, 0), some (.putfield 164, 47, 819, 794, 0), none, none, some (.aload_n 0, 48, 0, 0, 0), some (.dup, 49, 0, 0, 0), some (.getfield 126, 52, 818, 793, 0), none, none, some (.aload_n 0, 53, 0, 0, 0), some (.getfield 126, 56, 818, 793, 0), none, none, some (.bipush 8, 58, 0, 0, 8), none, some (.if_icmp .ge 7, 61, 65, 0, 0), none, none, some (.iconst 1, 62, 0, 0, 1), some (.goto 4, 65, 66, 0, 0), none, none, some (.iconst 0, 66, 0, 0, 0), some (.iadd, 67, 0, 0, 0), some (.putfield 126, 70, 818, 793, 0), none, none, some (.return_, 71, 0, 0, 0)]
/-- NeedleTelegraphModel.has -/
abbrev m_108 : Mth := (yX9_has, cX9_has, 2, (some .boolean), 2, true, 8)
def c_108 : List (Option Ent) := [some (.iload_n 0, 1, 0, 0, 0), some (.iload_n 1, 2, 0, 0, 0), some (.ishr, 3, 0, 0, 0), some (.iconst 1, 4, 0, 0, 1), some (.iand, 5, 0, 0, 0), some (.iconst 1, 6, 0, 0, 1), some (.if_icmp .ne 7, 9, 13, 0, 0), none, none, some (.iconst 1, 10, 0, 0, 1), some (.goto 4, 13, 14, 0, 0), none, none, some (.iconst 0, 14, 0, 0, 0), some (.ireturn, 15, 0, 0, 0)]
/-- NeedleTelegraphModel.goesOn -/
abbrev m_109 : Mth := (yX9_goesOn, cX9_goesOn, 5, none, 3, false, 8)
def c_109 : List (Option Ent) := [some (.iconst 3, 1, 0, 0, 3), some (.bipush 6, 3, 0, 0, 6), none, some (.iload_n 2, 4, 0, 0, 0), some (.imul, 5, 0, 0, 0), some (.iadd, 6, 0, 0, 0), some (.istore_n 3, 7, 0, 0, 0), some (.aload_n 1, 8, 0, 0, 0), some (.iload_n 3, 9, 0, 0, 0), some (.iconst 1, 10, 0, 0, 1), some (.iadd, 11, 0, 0, 0), some (.iaload, 12, 0, 0, 0), some (.ifCond .ne 20, 15, 32, 0, 0), none, none, some (.aload_n 1, 16, 0, 0, 0), some (.iload_n 3, 17, 0, 0, 0), some (.iconst 0, 18, 0, 0, 0), some (.iadd, 19, 0, 0, 0), some (.iaload, 20, 0, 0, 0), some (.aload_n 1, 21, 0, 0, 0), some (.iconst 0, 22, 0, 0, 0), some (.iaload, 23, 0, 0, 0), some (.if_icmp .ne 9, 26, 32, 0, 0), none, none, some (.aload_n 1, 27, 0, 0, 0), some (.iload_n 3, 28, 0, 0, 0), some (.iconst 1, 29, 0, 0, 1), some (.iadd, 30, 0, 0, 0), some (.iconst 1, 31, 0, 0, 1), some (.iastore, 32, 0, 0, 0), some (.aload_n 1, 33, 0, 0, 0), some (.iload_n 3, 34, 0, 0, 0), some (.iconst 2, 35, 0, 0, 2), some (.iadd, 36, 0, 0, 0), some (.iaload, 37, 0, 0, 0), some (.istore 4, 39, 0, 0, 0), none, some (.aload_n 1, 40, 0, 0, 0), some (.iload_n 3, 41, 0, 0, 0), some (.iconst 1, 42, 0, 0, 1), some (.iadd, 43, 0, 0, 0), some (.iaload, 44, 0, 0, 0), some (.iconst 1, 45, 0, 0, 1), some (.if_icmp .ne 34, 48, 79, 0, 0), none, none, some (.aload_n 1, 49, 0, 0, 0), some (.iload_n 3, 50, 0, 0, 0), some (.iconst 4, 51, 0, 0, 4), some (.iadd, 52, 0, 0, 0), some (.iaload, 53, 0, 0, 0), some (.ifCond .ne 26, 56, 79, 0, 0), none, none, some (.aload_n 1, 57, 0, 0, 0), some (.iconst 1, 58, 0, 0, 1), some (.iaload, 59, 0, 0, 0), some (.iload 4, 61, 0, 0, 0), none, some (.invokestatic 156, 64, 108, 954, 0), none, none, some (.ifCond .ne 15, 67, 79, 0, 0), none, none, some (.aload_n 1, 68, 0, 0, 0), some (.iload_n 3, 69, 0, 0, 0), some (.iconst 4, 70, 0, 0, 4), some (.iadd, 71, 0, 0, 0), some (.aload_n 0, 72, 0, 0, 0), some (.getfield 34, 75, 814, 789, 1), none, none, some (.iload 4, 77, 0, 0, 0), none, some (.iaload, 78, 0, 0, 0), some (.iastore, 79, 0, 0, 0), some (.aload_n 1, 80, 0, 0, 0), some (.iload_n 3, 81, 0, 0, 0), some (.iconst 1, 82, 0, 0, 1), some (.iadd, 83, 0, 0, 0), some (.iaload, 84, 0, 0, 0), some (.iconst 1, 85, 0, 0, 1), some (.if_icmp .ne 107, 88, 192, 0, 0), none, none, some (.aload_n 1, 89, 0, 0, 0), some (.iload_n 3, 90, 0, 0, 0), some (.iconst 4, 91, 0, 0, 4), some (.iadd, 92, 0, 0, 0), some (.iaload, 93, 0, 0, 0), some (.ifCond .le 99, 96, 192, 0, 0), none, none, some (.aload_n 1, 97, 0, 0, 0), some (.iload_n 3, 98, 0, 0, 0), some (.iconst 4, 99, 0, 0, 4), some (.iadd, 100, 0, 0, 0), some (.dup2, 101, 0, 0, 0), some (.iaload, 102, 0, 0, 0), some (.iconst 1, 103, 0, 0, 1), some (.isub, 104, 0, 0, 0), some (.iastore, 105, 0, 0, 0), some (.aload_n 1, 106, 0, 0, 0), some (.iload_n 3, 107, 0, 0, 0), some (.iconst 4, 108, 0, 0, 4), some (.iadd, 109, 0, 0, 0), some (.iaload, 110, 0, 0, 0), some (.ifCond .ne 82, 113, 192, 0, 0), none, none, some (.aload_n 1, 114, 0, 0, 0), some (.iload_n 3, 115, 0, 0, 0), some (.iconst 3, 116, 0, 0, 3), some (.iadd, 117, 0, 0, 0), some (.aload_n 0, 118, 0, 0, 0), some (.getfield 31, 121, 813, 788, 1), none, none, some (.iload 4, 123, 0, 0, 0), none, some (.iaload, 124, 0, 0, 0), some (.aload_n 1, 125, 0, 0, 0), some (.iload_n 3, 126, 0, 0, 0), some (.iconst 3, 127, 0, 0, 3), some (.iadd, 128, 0, 0, 0), some (.iaload, 129, 0, 0, 0), some (.invokestatic 152, 132, 97, 929, 0), none, none, some (.iastore, 133, 0, 0, 0), some (.aload_n 1, 134, 0, 0, 0), some (.iload_n 3, 135, 0, 0, 0), some (.iconst 1, 136, 0, 0, 1), some (.iadd, 137, 0, 0, 0), some (.aload_n 0, 138, 0, 0, 0), some (.getfield 37, 141, 815, 790, 1), none, none, some (.iload 4, 143, 0, 0, 0), none, some (.iaload, 144, 0, 0, 0), some (.iload 4, 146, 0, 0, 0), none, some (.if_icmp .ne 7, 149, 153, 0, 0), none, none, some (.iconst 2, 150, 0, 0, 2), some (.goto 4, 153, 154, 0, 0), none, none, some (.iconst 1, 154, 0, 0, 1), some (.iastore, 155, 0, 0, 0), some (.aload_n 1, 156, 0, 0, 0), some (.iload_n 3, 157, 0, 0, 0), some (.iconst 2, 158, 0, 0, 2), some (.iadd, 159, 0, 0, 0), some (.aload_n 0, 160, 0, 0, 0), some (.getfield 37, 163, 815, 790, 1), none, none, some (.iload 4, 165, 0, 0, 0), none, some (.iaload, 166, 0, 0, 0), some (.iastore, 167, 0, 0, 0), some (.aload_n 1, 168, 0, 0, 0), some (.iload_n 3, 169, 0, 0, 0), some (.iconst 5, 170, 0, 0, 5), some (.iadd, 171, 0, 0, 0), some (.aload_n 0, 172, 0, 0, 0), some (.getfield 37, 175, 815, 790, 1), none, none, some (.iload 4, 177, 0, 0, 0), none, some (.iaload, 178, 0, 0, 0), some (.iload 4, 180, 0, 0, 0), none, some (.if_icmp .ne 9, 183, 189, 0, 0), none, none, some (.aload_n 1, 184, 0, 0, 0), some (.iconst 0, 185, 0, 0, 0), some (.iaload, 186, 0, 0, 0), some (.goto 5, 189, 191, 0, 0), none, none, some (.bipush (-4), 191, 0, 0, (-4)), none, some (.iastore, 192, 0, 0, 0), some (.return_, 193, 0, 0, 0)]
/-- NeedleTelegraphModel.passes -/
abbrev m_110 : Mth := (yX9_passes, cX9_passes, 3, none, 2, false, 8)
def c_110 : List (Option Ent) := [some (.iconst 0, 1, 0, 0, 0), some (.istore_n 2, 2, 0, 0, 0), some (.iload_n 2, 3, 0, 0, 0), some (.aload_n 1, 4, 0, 0, 0), some (.iconst 2, 5, 0, 0, 2), some (.iaload, 6, 0, 0, 0), some (.if_icmp .ge 15, 9, 21, 0, 0), none, none, some (.aload_n 0, 10, 0, 0, 0), some (.aload_n 1, 11, 0, 0, 0), some (.iload_n 2, 12, 0, 0, 0), some (.invokevirtual 160, 15, 109, 950, 0), none, none, some (.iinc 2 1, 18, 0, 0, 1), none, none, some (.goto (-16), 21, 2, 0, 0), none, none, some (.aload_n 1, 22, 0, 0, 0), some (.iconst 0, 23, 0, 0, 0), some (.dup2, 24, 0, 0, 0), some (.iaload, 25, 0, 0, 0), some (.iconst 1, 26, 0, 0, 1), some (.iadd, 27, 0, 0, 0), some (.iastore, 28, 0, 0, 0), some (.return_, 29, 0, 0, 0)]
/-- NeedleTelegraphModel.outOf -/
abbrev m_111 : Mth := (yX9_outOf, cX9_outOf, 3, (some .int), 1, true, 8)
def c_111 : List (Option Ent) := [some (.iconst 0, 1, 0, 0, 0), some (.istore_n 1, 2, 0, 0, 0), some (.iconst 0, 3, 0, 0, 0), some (.istore_n 2, 4, 0, 0, 0), some (.iload_n 2, 5, 0, 0, 0), some (.aload_n 0, 6, 0, 0, 0), some (.iconst 2, 7, 0, 0, 2), some (.iaload, 8, 0, 0, 0), some (.if_icmp .ge 27, 11, 35, 0, 0), none, none, some (.iload_n 1, 12, 0, 0, 0), some (.aload_n 0, 13, 0, 0, 0), some (.iload_n 2, 14, 0, 0, 0), some (.iconst 1, 15, 0, 0, 1), some (.invokestatic 135, 18, 79, 910, 0), none, none, some (.iconst 2, 19, 0, 0, 2), some (.if_icmp .ne 7, 22, 26, 0, 0), none, none, some (.iconst 1, 23, 0, 0, 1), some (.goto 4, 26, 27, 0, 0), none, none, some (.iconst 0, 27, 0, 0, 0), some (.iadd, 28, 0, 0, 0), some (.istore_n 1, 29, 0, 0, 0), some (.iinc 2 1, 32, 0, 0, 1), none, none, some (.goto (-28), 35, 4, 0, 0), none, none, some (.iload_n 1, 36, 0, 0, 0), some (.ireturn, 37, 0, 0, 0)]
/-- NeedleTelegraphModel.pass -/
abbrev m_112 : Mth := (yX9_pass, cX9_pass, 3, (some .int), 2, false, 8)
def c_112 : List (Option Ent) := [some (.iload_n 1, 1, 0, 0, 0), some (.iconst 1, 2, 0, 0, 1), some (.bipush 60, 4, 0, 0, 60), none, some (.invokestatic 73, 7, 59, 855, 0), none, none, some (.ifCond .ne 5, 10, 12, 0, 0), none, none, some (.iconst (-1), 11, 0, 0, (-1)), some (.ireturn, 12, 0, 0, 0), some (.aload_n 0, 13, 0, 0, 0), some (.invokevirtual 167, 16, 107, 942, 0), none, none, some (.iconst 0, 17, 0, 0, 0), some (.istore_n 2, 18, 0, 0, 0), some (.iload_n 2, 19, 0, 0, 0), some (.iload_n 1, 20, 0, 0, 0), some (.if_icmp .ge 17, 23, 37, 0, 0), none, none, some (.aload_n 0, 24, 0, 0, 0), some (.aload_n 0, 25, 0, 0, 0), some (.getfield 40, 28, 816, 791, 1), none, none, some (.invokevirtual 170, 31, 110, 946, 0), none, none, some (.iinc 2 1, 34, 0, 0, 1), none, none, some (.goto (-16), 37, 18, 0, 0), none, none, some (.aload_n 0, 38, 0, 0, 0), some (.getfield 40, 41, 816, 791, 1), none, none, some (.invokestatic 174, 44, 111, 957, 0), none, none, some (.ireturn, 45, 0, 0, 0)]
/-- NeedleTelegraph.rain -/
abbrev m_113 : Mth := (yX8_rain, cX8_rain, 2, (some .int), 2, false, 7)
def c_113 : List (Option Ent) := [some (.aload_n 0, 1, 0, 0, 0), some (.getfield 28, 4, 702, 411, 1), none, none, some (.iload_n 1, 5, 0, 0, 0), some (.invokevirtual 95, 8, 29, 461, 0), none, none, some (.ifCond .ne 5, 11, 13, 0, 0), none, none, some (.iconst (-1), 12, 0, 0, (-1)), some (.ireturn, 13, 0, 0, 0), some (.aload_n 0, 14, 0, 0, 0), some (.getfield 47, 17, 705, 414, 1), none, none, some (.aload_n 0, 18, 0, 0, 0), some (.getfield 35, 21, 703, 412, 1), none, none, some (.invokevirtual 149, 24, 100, 515, 0), none, none, some (.aload_n 0, 25, 0, 0, 0), some (.getfield 35, 28, 703, 412, 1), none, none, some (.iload_n 1, 29, 0, 0, 0), some (.invokevirtual 160, 32, 36, 553, 0), none, none, some (.aload_n 0, 33, 0, 0, 0), some (.getfield 35, 36, 703, 412, 1), none, none, some (.iload_n 1, 37, 0, 0, 0), some (.invokevirtual 108, 40, 35, 465, 0), none, none, some (.ifCond .eq 7, 43, 47, 0, 0), none, none, some (.iconst 1, 44, 0, 0, 1), some (.goto 4, 47, 48, 0, 0), none, none, some (.iconst 0, 48, 0, 0, 0), some (.ireturn, 49, 0, 0, 0)]
/-- NeedleTelegraphModel.rain -/
abbrev m_114 : Mth := (yX9_rain, cX9_rain, 2, (some .int), 2, false, 8)
def c_114 : List (Option Ent) := [some (.aload_n 0, 1, 0, 0, 0), some (.iload_n 1, 2, 0, 0, 0), some (.invokevirtual 139, 5, 78, 902, 0), none, none, some (.ifCond .ne 5, 8, 10, 0, 0), none, none, some (.iconst (-1), 9, 0, 0, (-1)), some (.ireturn, 10, 0, 0, 0), some (.aload_n 0, 11, 0, 0, 0), some (.invokevirtual 167, 14, 107, 942, 0), none, none, some (.aload_n 0, 15, 0, 0, 0), some (.getfield 40, 18, 816, 791, 1), none, none, some (.iconst 1, 19, 0, 0, 1), some (.dup2, 20, 0, 0, 0), some (.iaload, 21, 0, 0, 0), some (.iconst 1, 22, 0, 0, 1), some (.iload_n 1, 23, 0, 0, 0), some (.ishl, 24, 0, 0, 0), some (.ixor, 25, 0, 0, 0), some (.iastore, 26, 0, 0, 0), some (.aload_n 0, 27, 0, 0, 0), some (.getfield 40, 30, 816, 791, 1), none, none, some (.iconst 1, 31, 0, 0, 1), some (.iaload, 32, 0, 0, 0), some (.iload_n 1, 33, 0, 0, 0), some (.ishr, 34, 0, 0, 0), some (.iconst 1, 35, 0, 0, 1), some (.iand, 36, 0, 0, 0), some (.ireturn, 37, 0, 0, 0)]
/-- NeedleTelegraph$Moment.size -/
abbrev m_115 : Mth := (yX2_size, cX2_size, 1, (some .int), 1, false, 2)
def c_115 : List (Option Ent) := [some (.aload_n 0, 1, 0, 0, 0), some (.getfield 22, 4, 202, 146, 0), none, none, some (.ireturn, 5, 0, 0, 0)]
/-- NeedleTelegraph$Moment.minute -/
abbrev m_116 : Mth := (yX2_minute, cX2_minute, 1, (some .int), 1, false, 2)
def c_116 : List (Option Ent) := [some (.aload_n 0, 1, 0, 0, 0), some (.getfield 26, 4, 203, 147, 0), none, none, some (.ireturn, 5, 0, 0, 0)]
/-- NeedleTelegraph.send -/
abbrev m_117 : Mth := (yX8_send, cX8_send, 3, (some .int), 3, false, 7)
def c_117 : List (Option Ent) := [some (.aload_n 0, 1, 0, 0, 0), some (.getfield 28, 4, 702, 411, 1), none, none, some (.iload_n 1, 5, 0, 0, 0), some (.invokevirtual 95, 8, 29, 461, 0), none, none, some (.ifCond .eq 10, 11, 18, 0, 0), none, none, some (.iload_n 2, 12, 0, 0, 0), some (.invokestatic 163, 15, 88, 558, 0), none, none, some (.ifCond .ne 5, 18, 20, 0, 0), none, none, some (.iconst (-1), 19, 0, 0, (-1)), some (.ireturn, 20, 0, 0, 0), some (.aload_n 0, 21, 0, 0, 0), some (.getfield 35, 24, 703, 412, 1), none, none, some (.invokevirtual 166, 27, 115, 559, 0), none, none, some (.bipush 6, 29, 0, 0, 6), none, some (.if_icmp .lt 6, 32, 35, 0, 0), none, none, some (.bipush (-3), 34, 0, 0, (-3)), none, some (.ireturn, 35, 0, 0, 0), some (.aload_n 0, 36, 0, 0, 0), some (.getfield 47, 39, 705, 414, 1), none, none, some (.aload_n 0, 40, 0, 0, 0), some (.getfield 35, 43, 703, 412, 1), none, none, some (.invokevirtual 149, 46, 100, 515, 0), none, none, some (.aload_n 0, 47, 0, 0, 0), some (.getfield 35, 50, 703, 412, 1), none, none, some (.iload_n 1, 51, 0, 0, 0), some (.aload_n 0, 52, 0, 0, 0), some (.getfield 35, 55, 703, 412, 1), none, none, some (.invokevirtual 167, 58, 116, 563, 0), none, none, some (.iload_n 2, 59, 0, 0, 0), some (.invokevirtual 170, 62, 32, 567, 0), none, none, some (.pop, 63, 0, 0, 0), some (.aload_n 0, 64, 0, 0, 0), some (.getfield 35, 67, 703, 412, 1), none, none, some (.invokevirtual 166, 70, 115, 559, 0), none, none, some (.iconst 1, 71, 0, 0, 1), some (.isub, 72, 0, 0, 0), some (.ireturn, 73, 0, 0, 0)]
/-- NeedleTelegraphModel.send -/
abbrev m_118 : Mth := (yX9_send, cX9_send, 3, (some .int), 3, false, 8)
def c_118 : List (Option Ent) := [some (.aload_n 0, 1, 0, 0, 0), some (.iload_n 1, 2, 0, 0, 0), some (.invokevirtual 139, 5, 78, 902, 0), none, none, some (.ifCond .eq 10, 8, 15, 0, 0), none, none, some (.iload_n 2, 9, 0, 0, 0), some (.invokestatic 149, 12, 94, 925, 0), none, none, some (.ifCond .ne 5, 15, 17, 0, 0), none, none, some (.iconst (-1), 16, 0, 0, (-1)), some (.ireturn, 17, 0, 0, 0), some (.aload_n 0, 18, 0, 0, 0), some (.getfield 40, 21, 816, 791, 1), none, none, some (.iconst 2, 22, 0, 0, 2), some (.iaload, 23, 0, 0, 0), some (.bipush 6, 25, 0, 0, 6), none, some (.if_icmp .ne 6, 28, 31, 0, 0), none, none, some (.bipush (-3), 30, 0, 0, (-3)), none, some (.ireturn, 31, 0, 0, 0), some (.aload_n 0, 32, 0, 0, 0), some (.invokevirtual 167, 35, 107, 942, 0), none, none, some (.aload_n 0, 36, 0, 0, 0), some (.getfield 40, 39, 816, 791, 1), none, none, some (.iload_n 1, 40, 0, 0, 0), some (.aload_n 0, 41, 0, 0, 0), some (.getfield 40, 44, 816, 791, 1), none, none, some (.iconst 0, 45, 0, 0, 0), some (.iaload, 46, 0, 0, 0), some (.iload_n 2, 47, 0, 0, 0), some (.invokestatic 122, 50, 55, 772, 0), none, none, some (.aload_n 0, 51, 0, 0, 0), some (.getfield 40, 54, 816, 791, 1), none, none, some (.iconst 2, 55, 0, 0, 2), some (.iaload, 56, 0, 0, 0), some (.iconst 1, 57, 0, 0, 1), some (.isub, 58, 0, 0, 0), some (.ireturn, 59, 0, 0, 0)]
/-- NeedleTelegraph.alter -/
abbrev m_119 : Mth := (yX8_alter, cX8_alter, 5, (some .int), 3, false, 7)
def c_119 : List (Option Ent) := [some (.aload_n 0, 1, 0, 0, 0), some (.getfield 35, 4, 703, 412, 1), none, none, some (.iload_n 1, 5, 0, 0, 0), some (.invokevirtual 114, 8, 82, 478, 0), none, none, some (.ifCond .eq 10, 11, 18, 0, 0), none, none, some (.iload_n 2, 12, 0, 0, 0), some (.invokestatic 163, 15, 88, 558, 0), none, none, some (.ifCond .ne 5, 18, 20, 0, 0), none, none, some (.iconst (-1), 19, 0, 0, (-1)), some (.ireturn, 20, 0, 0, 0), some (.aload_n 0, 21, 0, 0, 0), some (.getfield 35, 24, 703, 412, 1), none, none, some (.iload_n 1, 25, 0, 0, 0), some (.invokevirtual 115, 28, 30, 482, 0), none, none, some (.astore_n 3, 29, 0, 0, 0), some (.aload_n 3, 30, 0, 0, 0), some (.getfield 125, 33, 101, 119, 0), none, none, some (.iconst 1, 34, 0, 0, 1), some (.if_icmp .eq 6, 37, 40, 0, 0), none, none, some (.bipush (-2), 39, 0, 0, (-2)), none, some (.ireturn, 40, 0, 0, 0), some (.aload_n 0, 41, 0, 0, 0), some (.getfield 47, 44, 705, 414, 1), none, none, some (.aload_n 0, 45, 0, 0, 0), some (.getfield 35, 48, 703, 412, 1), none, none, some (.invokevirtual 149, 51, 100, 515, 0), none, none, some (.aload_n 3, 52, 0, 0, 0), some (.getfield 131, 55, 103, 125, 0), none, none, some (.istore 4, 57, 0, 0, 0), none, some (.aload_n 3, 58, 0, 0, 0), some (.iload_n 2, 59, 0, 0, 0), some (.putfield 131, 62, 103, 125, 0), none, none, some (.iload 4, 64, 0, 0, 0), none, some (.ireturn, 65, 0, 0, 0)]
/-- NeedleTelegraphModel.alter -/
abbrev m_120 : Mth := (yX9_alter, cX9_alter, 4, (some .int), 3, false, 8)
def c_120 : List (Option Ent) := [some (.aload_n 0, 1, 0, 0, 0), some (.iload_n 1, 2, 0, 0, 0), some (.invokevirtual 146, 5, 84, 917, 0), none, none, some (.ifCond .eq 10, 8, 15, 0, 0), none, none, some (.iload_n 2, 9, 0, 0, 0), some (.invokestatic 149, 12, 94, 925, 0), none, none, some (.ifCond .ne 5, 15, 17, 0, 0), none, none, some (.iconst (-1), 16, 0, 0, (-1)), some (.ireturn, 17, 0, 0, 0), some (.aload_n 0, 18, 0, 0, 0), some (.getfield 40, 21, 816, 791, 1), none, none, some (.iload_n 1, 22, 0, 0, 0), some (.iconst 1, 23, 0, 0, 1), some (.invokestatic 135, 26, 79, 910, 0), none, none, some (.iconst 1, 27, 0, 0, 1), some (.if_icmp .eq 6, 30, 33, 0, 0), none, none, some (.bipush (-2), 32, 0, 0, (-2)), none, some (.ireturn, 33, 0, 0, 0), some (.aload_n 0, 34, 0, 0, 0), some (.invokevirtual 167, 37, 107, 942, 0), none, none, some (.aload_n 0, 38, 0, 0, 0), some (.getfield 40, 41, 816, 791, 1), none, none, some (.iload_n 1, 42, 0, 0, 0), some (.iconst 3, 43, 0, 0, 3), some (.invokestatic 135, 46, 79, 910, 0), none, none, some (.istore_n 3, 47, 0, 0, 0), some (.aload_n 0, 48, 0, 0, 0), some (.getfield 40, 51, 816, 791, 1), none, none, some (.iconst 3, 52, 0, 0, 3), some (.bipush 6, 54, 0, 0, 6), none, some (.iload_n 1, 55, 0, 0, 0), some (.imul, 56, 0, 0, 0), some (.iadd, 57, 0, 0, 0), some (.iconst 3, 58, 0, 0, 3), some (.iadd, 59, 0, 0, 0), some (.iload_n 2, 60, 0, 0, 0), some (.iastore, 61, 0, 0, 0), some (.iload_n 3, 62, 0, 0, 0), some (.ireturn, 63, 0, 0, 0)]
/-- NeedleTelegraph$Pile.takeInto -/
abbrev m_121 : Mth := (yX3_takeInto, cX3_takeInto, 4, (some .boolean), 2, false, 3)
def c_121 : List (Option Ent) := [some (.aload_n 0, 1, 0, 0, 0), some (.getfield 22, 4, 301, 192, 0), none, none, some (.iconst 1, 5, 0, 0, 1), some (.isub, 6, 0, 0, 0), some (.istore_n 2, 7, 0, 0, 0), some (.iload_n 2, 8, 0, 0, 0), some (.ifCond .lt 21, 11, 29, 0, 0), none, none, some (.iload_n 2, 12, 0, 0, 0), some (.aload_n 0, 13, 0, 0, 0), some (.getfield 15, 16, 300, 191, 1), none, none, some (.arraylength, 17, 0, 0, 0), some (.if_icmp .ge 12, 20, 29, 0, 0), none, none, some (.aload_n 0, 21, 0, 0, 0), some (.getfield 15, 24, 300, 191, 1), none, none, some (.iload_n 2, 25, 0, 0, 0), some (.aaload, 26, 0, 0, 0), some (.goto 4, 29, 30, 0, 0), none, none, some (.aconst_null, 30, 0, 0, 0), some (.astore_n 3, 31, 0, 0, 0), some (.aload_n 3, 32, 0, 0, 0), some (.ifnonnull 5, 35, 37, 0, 0), none, none, some (.iconst 0, 36, 0, 0, 0), some (.ireturn, 37, 0, 0, 0), some (.aload_n 1, 38, 0, 0, 0), some (.aload_n 3, 39, 0, 0, 0), some (.invokevirtual 29, 42, 46, 523, 0), none, none, some (.aload_n 0, 43, 0, 0, 0), some (.iload_n 2, 44, 0, 0, 0), some (.putfield 22, 47, 301, 192, 0), none, none, some (.iconst 1, 48, 0, 0, 1), some (.ireturn, 49, 0, 0, 0)]
/-- NeedleTelegraph$Pile.size -/
abbrev m_122 : Mth := (yX3_size, cX3_size, 1, (some .int), 1, false, 3)
def c_122 : List (Option Ent) := [some (.aload_n 0, 1, 0, 0, 0), some (.getfield 22, 4, 301, 192, 0), none, none, some (.ireturn, 5, 0, 0, 0)]
/-- NeedleTelegraph.undo -/
abbrev m_123 : Mth := (yX8_undo, cX8_undo, 1, (some .int), 1, false, 7)
def c_123 : List (Option Ent) := [some (.aload_n 0, 1, 0, 0, 0), some (.getfield 47, 4, 705, 414, 1), none, none, some (.aload_n 0, 5, 0, 0, 0), some (.getfield 35, 8, 703, 412, 1), none, none, some (.invokevirtual 172, 11, 121, 576, 0), none, none, some (.ifCond .eq 13, 14, 24, 0, 0), none, none, some (.aload_n 0, 15, 0, 0, 0), some (.getfield 47, 18, 705, 414, 1), none, none, some (.invokevirtual 176, 21, 122, 580, 0), none, none, some (.goto 5, 24, 26, 0, 0), none, none, some (.bipush (-2), 26, 0, 0, (-2)), none, some (.ireturn, 27, 0, 0, 0)]
/-- NeedleTelegraphModel.undo -/
abbrev m_124 : Mth := (yX9_undo, cX9_undo, 2, (some .int), 1, false, 8)
def c_124 : List (Option Ent) := [some (.aload_n 0, 1, 0, 0, 0), some (.getfield 126, 4, 818, 793, 0), none, none, some (.ifCond .ne 6, 7, 10, 0, 0), none, none, some (.bipush (-2), 9, 0, 0, (-2)), none, some (.ireturn, 10, 0, 0, 0), some (.aload_n 0, 11, 0, 0, 0), some (.aload_n 0, 12, 0, 0, 0), some (.getfield 164, 15, 819, 794, 0), none, none, some (.bipush 8, 17, 0, 0, 8), none, some (.iadd, 18, 0, 0, 0), some (.iconst 1, 19, 0, 0, 1), some (.isub, 20, 0, 0, 0), some (.bipush 8, 22, 0, 0, 8), none, some (.irem, 23, 0, 0, 0), some (.putfield 164, 26, 819, 794, 0), none, none, some (.aload_n 0, 27, 0, 0, 0), some (.dup, 28, 0, 0, 0), some (.getfield 126, 31, 818, 793, 0), none, none, some (.iconst 1, 32, 0, 0, 1), some (.isub, 33, 0, 0, 0), some (.putfield 126, 36, 818, 793, 0), none, none, some (.iconst 0, 37, 0, 0, 0), some (.istore_n 1, 38, 0, 0, 0), some (.iload_n 1, 39, 0, 0, 0), some (.bipush 39, 41, 0, 0, 39), none, some (.if_icmp .ge 29, 44, 70, 0, 0), none, none, some (.aload_n 0, 45, 0, 0, 0), some (.getfield 40, 48, 816, 791, 1), none, none, some (.iload_n 1, 49, 0, 0, 0), some (.aload_n 0, 50, 0, 0, 0), some (.getfield 46, 53, 820, 795, 1), none, none, some (.bipush 39, 55, 0, 0, 39), none, some (.aload_n 0, 56, 0, 0, 0), some (.getfield 164, 59, 819, 794, 0), none, none, some (.imul, 60, 0, 0, 0), some (.iload_n 1, 61, 0, 0, 0), some (.iadd, 62, 0, 0, 0), some (.iaload, 63, 0, 0, 0), some (.iastore, 64, 0, 0, 0), some (.iinc 1 1, 67, 0, 0, 1), none, none, some (.goto (-29), 70, 38, 0, 0), none, none, some (.aload_n 0, 71, 0, 0, 0), some (.getfield 126, 74, 818, 793, 0), none, none, some (.ireturn, 75, 0, 0, 0)]
/-- NeedleTelegraph$Valley.rowAtSeaWere -/
abbrev m_125 : Mth := (yX7_rowAtSeaWere, cX7_rowAtSeaWere, 8, (some .int), 5, false, 6)
def c_125 : List (Option Ent) := [some (.iload_n 3, 1, 0, 0, 0), some (.istore 5, 3, 0, 0, 0), none, some (.iload 4, 5, 0, 0, 0), none, some (.istore 6, 7, 0, 0, 0), none, some (.iconst 0, 8, 0, 0, 0), some (.istore 7, 10, 0, 0, 0), none, some (.iload 7, 12, 0, 0, 0), none, some (.bipush 9, 14, 0, 0, 9), none, some (.if_icmp .ge 52, 17, 66, 0, 0), none, none, some (.iload 5, 19, 0, 0, 0), none, some (.iload_n 1, 20, 0, 0, 0), some (.if_icmp .ne 7, 23, 27, 0, 0), none, none, some (.iload_n 2, 24, 0, 0, 0), some (.goto 9, 27, 33, 0, 0), none, none, some (.aload_n 0, 28, 0, 0, 0), some (.iload 5, 30, 0, 0, 0), none, some (.invokevirtual 44, 33, 41, 373, 0), none, none, some (.iload 6, 35, 0, 0, 0), none, some (.invokestatic 57, 38, 92, 596, 0), none, none, some (.istore 6, 40, 0, 0, 0), none, some (.aload_n 0, 41, 0, 0, 0), some (.iload 5, 43, 0, 0, 0), none, some (.invokevirtual 63, 46, 101, 597, 0), none, none, some (.ifCond .eq 6, 49, 52, 0, 0), none, none, some (.goto 17, 52, 66, 0, 0), none, none, some (.aload_n 0, 53, 0, 0, 0), some (.iload 5, 55, 0, 0, 0), none, some (.invokevirtual 29, 58, 43, 384, 0), none, none, some (.istore 5, 60, 0, 0, 0), none, some (.iinc 7 1, 63, 0, 0, 1), none, none, some (.goto (-53), 66, 10, 0, 0), none, none, some (.iload 6, 68, 0, 0, 0), none, some (.ireturn, 69, 0, 0, 0)]
/-- NeedleTelegraph$Valley.rowAtSea -/
abbrev m_126 : Mth := (yX7_rowAtSea, cX7_rowAtSea, 3, (some .int), 3, false, 6)
def c_126 : List (Option Ent) := [some (.aload_n 0, 1, 0, 0, 0), some (.iconst (-1), 2, 0, 0, (-1)), some (.iconst 0, 3, 0, 0, 0), some (.iload_n 1, 4, 0, 0, 0), some (.iload_n 2, 5, 0, 0, 0), some (.invokevirtual 53, 8, 125, 592, 0), none, none, some (.ireturn, 9, 0, 0, 0)]
/-- NeedleTelegraph$Valley.wayToSea -/
abbrev m_127 : Mth := (yX7_wayToSea, cX7_wayToSea, 5, (some .int), 2, false, 6)
def c_127 : List (Option Ent) := [some (.iload_n 1, 1, 0, 0, 0), some (.istore_n 2, 2, 0, 0, 0), some (.iconst 0, 3, 0, 0, 0), some (.istore_n 3, 4, 0, 0, 0), some (.iconst 0, 5, 0, 0, 0), some (.istore 4, 7, 0, 0, 0), none, some (.iload 4, 9, 0, 0, 0), none, some (.bipush 9, 11, 0, 0, 9), none, some (.if_icmp .ge 32, 14, 43, 0, 0), none, none, some (.iload_n 3, 15, 0, 0, 0), some (.iconst 1, 16, 0, 0, 1), some (.iload_n 2, 17, 0, 0, 0), some (.ishl, 18, 0, 0, 0), some (.ior, 19, 0, 0, 0), some (.istore_n 3, 20, 0, 0, 0), some (.aload_n 0, 21, 0, 0, 0), some (.iload_n 2, 22, 0, 0, 0), some (.invokevirtual 63, 25, 101, 597, 0), none, none, some (.ifCond .eq 6, 28, 31, 0, 0), none, none, some (.goto 15, 31, 43, 0, 0), none, none, some (.aload_n 0, 32, 0, 0, 0), some (.iload_n 2, 33, 0, 0, 0), some (.invokevirtual 29, 36, 43, 384, 0), none, none, some (.istore_n 2, 37, 0, 0, 0), some (.iinc 4 1, 40, 0, 0, 1), none, none, some (.goto (-33), 43, 7, 0, 0), none, none, some (.iload_n 3, 44, 0, 0, 0), some (.ireturn, 45, 0, 0, 0)]
/-- NeedleTelegraph$Valley.minutesToSea -/
abbrev m_128 : Mth := (yX7_minutesToSea, cX7_minutesToSea, 5, (some .int), 2, false, 6)
def c_128 : List (Option Ent) := [some (.aload_n 0, 1, 0, 0, 0), some (.iload_n 1, 2, 0, 0, 0), some (.invokevirtual 67, 5, 127, 602, 0), none, none, some (.istore_n 2, 6, 0, 0, 0), some (.iconst 0, 7, 0, 0, 0), some (.istore_n 3, 8, 0, 0, 0), some (.iconst 0, 9, 0, 0, 0), some (.istore 4, 11, 0, 0, 0), none, some (.iload 4, 13, 0, 0, 0), none, some (.aload_n 0, 14, 0, 0, 0), some (.getfield 21, 17, 603, 93, 0), none, none, some (.if_icmp .ge 31, 20, 48, 0, 0), none, none, some (.iload_n 3, 21, 0, 0, 0), some (.iload_n 2, 22, 0, 0, 0), some (.iload 4, 24, 0, 0, 0), none, some (.invokestatic 70, 27, 34, 606, 1), none, none, some (.ifCond .eq 12, 30, 39, 0, 0), none, none, some (.aload_n 0, 31, 0, 0, 0), some (.iload 4, 33, 0, 0, 0), none, some (.invokevirtual 47, 36, 42, 380, 0), none, none, some (.goto 4, 39, 40, 0, 0), none, none, some (.iconst 0, 40, 0, 0, 0), some (.iadd, 41, 0, 0, 0), some (.istore_n 3, 42, 0, 0, 0), some (.iinc 4 1, 45, 0, 0, 1), none, none, some (.goto (-34), 48, 11, 0, 0), none, none, some (.iload_n 3, 49, 0, 0, 0), some (.ireturn, 50, 0, 0, 0)]
/-- NeedleTelegraph.comes -/
abbrev m_129 : Mth := (yX8_comes, cX8_comes, 4, (some .int), 4, false, 7)
def c_129 : List (Option Ent) := [some (.aload_n 0, 1, 0, 0, 0), some (.getfield 28, 4, 702, 411, 1), none, none, some (.iload_n 1, 5, 0, 0, 0), some (.invokevirtual 95, 8, 29, 461, 0), none, none, some (.ifCond .eq 19, 11, 27, 0, 0), none, none, some (.iload_n 2, 12, 0, 0, 0), some (.invokestatic 163, 15, 88, 558, 0), none, none, some (.ifCond .eq 12, 18, 27, 0, 0), none, none, some (.iload_n 3, 19, 0, 0, 0), some (.iconst 0, 20, 0, 0, 0), some (.iconst 1, 21, 0, 0, 1), some (.invokestatic 86, 24, 22, 439, 0), none, none, some (.ifCond .ne 5, 27, 29, 0, 0), none, none, some (.iconst (-1), 28, 0, 0, (-1)), some (.ireturn, 29, 0, 0, 0), some (.iload_n 3, 30, 0, 0, 0), some (.ifCond .ne 15, 33, 45, 0, 0), none, none, some (.aload_n 0, 34, 0, 0, 0), some (.getfield 28, 37, 702, 411, 1), none, none, some (.iload_n 1, 38, 0, 0, 0), some (.iload_n 2, 39, 0, 0, 0), some (.invokevirtual 177, 42, 126, 588, 0), none, none, some (.goto 11, 45, 53, 0, 0), none, none, some (.aload_n 0, 46, 0, 0, 0), some (.getfield 28, 49, 702, 411, 1), none, none, some (.iload_n 1, 50, 0, 0, 0), some (.invokevirtual 180, 53, 128, 598, 0), none, none, some (.ireturn, 54, 0, 0, 0)]
/-- NeedleTelegraphModel.comesBy -/
abbrev m_130 : Mth := (yX9_comesBy, cX9_comesBy, 7, (some .int), 5, false, 8)
def c_130 : List (Option Ent) := [some (.iload_n 1, 1, 0, 0, 0), some (.iload_n 3, 2, 0, 0, 0), some (.if_icmp .ne 8, 5, 10, 0, 0), none, none, some (.iload 4, 7, 0, 0, 0), none, some (.goto 9, 10, 16, 0, 0), none, none, some (.aload_n 0, 11, 0, 0, 0), some (.getfield 31, 14, 813, 788, 1), none, none, some (.iload_n 1, 15, 0, 0, 0), some (.iaload, 16, 0, 0, 0), some (.iload_n 2, 17, 0, 0, 0), some (.invokestatic 152, 20, 97, 929, 0), none, none, some (.istore 5, 22, 0, 0, 0), none, some (.iload_n 1, 23, 0, 0, 0), some (.istore 6, 25, 0, 0, 0), none, some (.aload_n 0, 26, 0, 0, 0), some (.getfield 37, 29, 815, 790, 1), none, none, some (.iload 6, 31, 0, 0, 0), none, some (.iaload, 32, 0, 0, 0), some (.iload 6, 34, 0, 0, 0), none, some (.if_icmp .eq 50, 37, 84, 0, 0), none, none, some (.aload_n 0, 38, 0, 0, 0), some (.getfield 37, 41, 815, 790, 1), none, none, some (.iload 6, 43, 0, 0, 0), none, some (.iaload, 44, 0, 0, 0), some (.iload_n 3, 45, 0, 0, 0), some (.if_icmp .ne 8, 48, 53, 0, 0), none, none, some (.iload 4, 50, 0, 0, 0), none, some (.goto 15, 53, 65, 0, 0), none, none, some (.aload_n 0, 54, 0, 0, 0), some (.getfield 31, 57, 813, 788, 1), none, none, some (.aload_n 0, 58, 0, 0, 0), some (.getfield 37, 61, 815, 790, 1), none, none, some (.iload 6, 63, 0, 0, 0), none, some (.iaload, 64, 0, 0, 0), some (.iaload, 65, 0, 0, 0), some (.iload 5, 67, 0, 0, 0), none, some (.invokestatic 152, 70, 97, 929, 0), none, none, some (.istore 5, 72, 0, 0, 0), none, some (.aload_n 0, 73, 0, 0, 0), some (.getfield 37, 76, 815, 790, 1), none, none, some (.iload 6, 78, 0, 0, 0), none, some (.iaload, 79, 0, 0, 0), some (.istore 6, 81, 0, 0, 0), none, some (.goto (-56), 84, 25, 0, 0), none, none, some (.iload 5, 86, 0, 0, 0), none, some (.ireturn, 87, 0, 0, 0)]
/-- NeedleTelegraphModel.comesOf -/
abbrev m_131 : Mth := (yX9_comesOf, cX9_comesOf, 3, (some .int), 3, false, 8)
def c_131 : List (Option Ent) := [some (.aload_n 0, 1, 0, 0, 0), some (.iload_n 1, 2, 0, 0, 0), some (.iload_n 2, 3, 0, 0, 0), some (.iconst (-1), 4, 0, 0, (-1)), some (.iconst 0, 5, 0, 0, 0), some (.invokevirtual 178, 8, 130, 984, 0), none, none, some (.ireturn, 9, 0, 0, 0)]
/-- NeedleTelegraphModel.comes -/
abbrev m_132 : Mth := (yX9_comes, cX9_comes, 6, (some .int), 4, false, 8)
def c_132 : List (Option Ent) := [some (.aload_n 0, 1, 0, 0, 0), some (.iload_n 1, 2, 0, 0, 0), some (.invokevirtual 139, 5, 78, 902, 0), none, none, some (.ifCond .eq 19, 8, 24, 0, 0), none, none, some (.iload_n 2, 9, 0, 0, 0), some (.invokestatic 149, 12, 94, 925, 0), none, none, some (.ifCond .eq 12, 15, 24, 0, 0), none, none, some (.iload_n 3, 16, 0, 0, 0), some (.iconst 0, 17, 0, 0, 0), some (.iconst 1, 18, 0, 0, 1), some (.invokestatic 73, 21, 59, 855, 0), none, none, some (.ifCond .ne 5, 24, 26, 0, 0), none, none, some (.iconst (-1), 25, 0, 0, (-1)), some (.ireturn, 26, 0, 0, 0), some (.aload_n 0, 27, 0, 0, 0), some (.getfield 34, 30, 814, 789, 1), none, none, some (.iload_n 1, 31, 0, 0, 0), some (.iaload, 32, 0, 0, 0), some (.istore 4, 34, 0, 0, 0), none, some (.iload_n 1, 35, 0, 0, 0), some (.istore 5, 37, 0, 0, 0), none, some (.aload_n 0, 38, 0, 0, 0), some (.getfield 37, 41, 815, 790, 1), none, none, some (.iload 5, 43, 0, 0, 0), none, some (.iaload, 44, 0, 0, 0), some (.iload 5, 46, 0, 0, 0), none, some (.if_icmp .eq 32, 49, 78, 0, 0), none, none, some (.iload 4, 51, 0, 0, 0), none, some (.aload_n 0, 52, 0, 0, 0), some (.getfield 34, 55, 814, 789, 1), none, none, some (.aload_n 0, 56, 0, 0, 0), some (.getfield 37, 59, 815, 790, 1), none, none, some (.iload 5, 61, 0, 0, 0), none, some (.iaload, 62, 0, 0, 0), some (.iaload, 63, 0, 0, 0), some (.iadd, 64, 0, 0, 0), some (.istore 4, 66, 0, 0, 0), none, some (.aload_n 0, 67, 0, 0, 0), some (.getfield 37, 70, 815, 790, 1), none, none, some (.iload 5, 72, 0, 0, 0), none, some (.iaload, 73, 0, 0, 0), some (.istore 5, 75, 0, 0, 0), none, some (.goto (-38), 78, 37, 0, 0), none, none, some (.iload_n 3, 79, 0, 0, 0), some (.ifCond .ne 12, 82, 91, 0, 0), none, none, some (.aload_n 0, 83, 0, 0, 0), some (.iload_n 1, 84, 0, 0, 0), some (.iload_n 2, 85, 0, 0, 0), some (.invokevirtual 182, 88, 131, 980, 0), none, none, some (.goto 5, 91, 93, 0, 0), none, none, some (.iload 4, 93, 0, 0, 0), none, some (.ireturn, 94, 0, 0, 0)]
/-- NeedleTelegraph$Message.minutesToSea -/
abbrev m_133 : Mth := (yX1_minutesToSea, cX1_minutesToSea, 5, (some .int), 3, false, 1)
def c_133 : List (Option Ent) := [some (.aload_n 0, 1, 0, 0, 0), some (.getfield 15, 4, 101, 118, 0), none, none, some (.ifCond .ne 12, 7, 16, 0, 0), none, none, some (.aload_n 0, 8, 0, 0, 0), some (.getfield 9, 11, 100, 116, 0), none, none, some (.iload_n 2, 12, 0, 0, 0), some (.isub, 13, 0, 0, 0), some (.goto 4, 16, 17, 0, 0), none, none, some (.iconst 0, 17, 0, 0, 0), some (.istore_n 3, 18, 0, 0, 0), some (.aload_n 0, 19, 0, 0, 0), some (.getfield 24, 22, 104, 127, 0), none, none, some (.ifCond .le 19, 25, 41, 0, 0), none, none, some (.aload_n 1, 26, 0, 0, 0), some (.aload_n 0, 27, 0, 0, 0), some (.getfield 18, 30, 102, 121, 0), none, none, some (.invokevirtual 34, 33, 42, 533, 0), none, none, some (.aload_n 0, 34, 0, 0, 0), some (.getfield 24, 37, 104, 127, 0), none, none, some (.isub, 38, 0, 0, 0), some (.goto 4, 41, 42, 0, 0), none, none, some (.iconst 0, 42, 0, 0, 0), some (.istore 4, 44, 0, 0, 0), none, some (.iload_n 3, 45, 0, 0, 0), some (.iload 4, 47, 0, 0, 0), none, some (.isub, 48, 0, 0, 0), some (.aload_n 1, 49, 0, 0, 0), some (.aload_n 0, 50, 0, 0, 0), some (.getfield 18, 53, 102, 121, 0), none, none, some (.invokevirtual 63, 56, 128, 615, 0), none, none, some (.iadd, 57, 0, 0, 0), some (.ireturn, 58, 0, 0, 0)]
/-- NeedleTelegraph$Message.chairsAhead -/
abbrev m_134 : Mth := (yX1_chairsAhead, cX1_chairsAhead, 3, (some .int), 2, false, 1)
def c_134 : List (Option Ent) := [some (.aload_n 1, 1, 0, 0, 0), some (.aload_n 0, 2, 0, 0, 0), some (.getfield 18, 5, 102, 121, 0), none, none, some (.invokevirtual 60, 8, 127, 624, 0), none, none, some (.istore_n 2, 9, 0, 0, 0), some (.aload_n 0, 10, 0, 0, 0), some (.getfield 24, 13, 104, 127, 0), none, none, some (.ifCond .le 16, 16, 29, 0, 0), none, none, some (.iload_n 2, 17, 0, 0, 0), some (.iconst 1, 18, 0, 0, 1), some (.aload_n 0, 19, 0, 0, 0), some (.getfield 18, 22, 102, 121, 0), none, none, some (.ishl, 23, 0, 0, 0), some (.iconst (-1), 24, 0, 0, (-1)), some (.ixor, 25, 0, 0, 0), some (.iand, 26, 0, 0, 0), some (.goto 4, 29, 30, 0, 0), none, none, some (.iload_n 2, 30, 0, 0, 0), some (.ireturn, 31, 0, 0, 0)]
/-- NeedleTelegraph$Moment.chairsHolding -/
abbrev m_135 : Mth := (yX2_chairsHolding, cX2_chairsHolding, 3, (some .int), 3, false, 2)
def c_135 : List (Option Ent) := [some (.aload_n 1, 1, 0, 0, 0), some (.aload_n 2, 2, 0, 0, 0), some (.invokevirtual 58, 5, 134, 620, 0), none, none, some (.aload_n 0, 6, 0, 0, 0), some (.getfield 29, 9, 204, 148, 0), none, none, some (.iand, 10, 0, 0, 0), some (.ireturn, 11, 0, 0, 0)]
/-- NeedleTelegraph.out -/
abbrev m_136 : Mth := (yX8_out, cX8_out, 5, (some .int), 3, false, 7)
def c_136 : List (Option Ent) := [some (.aload_n 0, 1, 0, 0, 0), some (.getfield 35, 4, 703, 412, 1), none, none, some (.iload_n 1, 5, 0, 0, 0), some (.invokevirtual 114, 8, 82, 478, 0), none, none, some (.ifCond .eq 12, 11, 20, 0, 0), none, none, some (.iload_n 2, 12, 0, 0, 0), some (.iconst 0, 13, 0, 0, 0), some (.iconst 1, 14, 0, 0, 1), some (.invokestatic 86, 17, 22, 439, 0), none, none, some (.ifCond .ne 5, 20, 22, 0, 0), none, none, some (.iconst (-1), 21, 0, 0, (-1)), some (.ireturn, 22, 0, 0, 0), some (.aload_n 0, 23, 0, 0, 0), some (.getfield 35, 26, 703, 412, 1), none, none, some (.iload_n 1, 27, 0, 0, 0), some (.invokevirtual 115, 30, 30, 482, 0), none, none, some (.astore_n 3, 31, 0, 0, 0), some (.aload_n 3, 32, 0, 0, 0), some (.getfield 125, 35, 101, 119, 0), none, none, some (.iconst 2, 36, 0, 0, 2), some (.if_icmp .ne 6, 39, 42, 0, 0), none, none, some (.bipush (-2), 41, 0, 0, (-2)), none, some (.ireturn, 42, 0, 0, 0), some (.aload_n 3, 43, 0, 0, 0), some (.aload_n 0, 44, 0, 0, 0), some (.getfield 28, 47, 702, 411, 1), none, none, some (.aload_n 0, 48, 0, 0, 0), some (.getfield 35, 51, 703, 412, 1), none, none, some (.invokevirtual 167, 54, 116, 563, 0), none, none, some (.invokevirtual 183, 57, 133, 611, 0), none, none, some (.istore 4, 59, 0, 0, 0), none, some (.aload_n 0, 60, 0, 0, 0), some (.getfield 35, 63, 703, 412, 1), none, none, some (.aload_n 3, 64, 0, 0, 0), some (.aload_n 0, 65, 0, 0, 0), some (.getfield 28, 68, 702, 411, 1), none, none, some (.invokevirtual 186, 71, 135, 616, 0), none, none, some (.ifCond .ne 11, 74, 82, 0, 0), none, none, some (.iload 4, 76, 0, 0, 0), none, some (.sipush 240, 79, 0, 0, 240), none, none, some (.if_icmp .le 6, 82, 85, 0, 0), none, none, some (.bipush (-4), 84, 0, 0, (-4)), none, some (.ireturn, 85, 0, 0, 0), some (.iload_n 2, 86, 0, 0, 0), some (.ifCond .ne 8, 89, 94, 0, 0), none, none, some (.iload 4, 91, 0, 0, 0), none, some (.goto 18, 94, 109, 0, 0), none, none, some (.aload_n 0, 95, 0, 0, 0), some (.getfield 28, 98, 702, 411, 1), none, none, some (.aload_n 3, 99, 0, 0, 0), some (.getfield 128, 102, 102, 122, 0), none, none, some (.aload_n 3, 103, 0, 0, 0), some (.getfield 131, 106, 103, 125, 0), none, none, some (.invokevirtual 177, 109, 126, 588, 0), none, none, some (.ireturn, 110, 0, 0, 0)]
/-- NeedleTelegraphModel.copyNow -/
abbrev m_137 : Mth := (yX9_copyNow, cX9_copyNow, 2, none, 1, false, 8)
def c_137 : List (Option Ent) := [some (.iconst 0, 1, 0, 0, 0), some (.istore_n 1, 2, 0, 0, 0), some (.iload_n 1, 3, 0, 0, 0), some (.bipush 39, 5, 0, 0, 39), none, some (.if_icmp .ge 21, 8, 26, 0, 0), none, none, some (.aload_n 0, 9, 0, 0, 0), some (.getfield 43, 12, 817, 792, 1), none, none, some (.iload_n 1, 13, 0, 0, 0), some (.aload_n 0, 14, 0, 0, 0), some (.getfield 40, 17, 816, 791, 1), none, none, some (.iload_n 1, 18, 0, 0, 0), some (.iaload, 19, 0, 0, 0), some (.iastore, 20, 0, 0, 0), some (.iinc 1 1, 23, 0, 0, 1), none, none, some (.goto (-21), 26, 2, 0, 0), none, none, some (.return_, 27, 0, 0, 0)]
/-- NeedleTelegraphModel.out -/
abbrev m_138 : Mth := (yX9_out, cX9_out, 4, (some .int), 3, false, 8)
def c_138 : List (Option Ent) := [some (.aload_n 0, 1, 0, 0, 0), some (.iload_n 1, 2, 0, 0, 0), some (.invokevirtual 146, 5, 84, 917, 0), none, none, some (.ifCond .eq 12, 8, 17, 0, 0), none, none, some (.iload_n 2, 9, 0, 0, 0), some (.iconst 0, 10, 0, 0, 0), some (.iconst 1, 11, 0, 0, 1), some (.invokestatic 73, 14, 59, 855, 0), none, none, some (.ifCond .ne 5, 17, 19, 0, 0), none, none, some (.iconst (-1), 18, 0, 0, (-1)), some (.ireturn, 19, 0, 0, 0), some (.aload_n 0, 20, 0, 0, 0), some (.getfield 40, 23, 816, 791, 1), none, none, some (.iload_n 1, 24, 0, 0, 0), some (.iconst 1, 25, 0, 0, 1), some (.invokestatic 135, 28, 79, 910, 0), none, none, some (.iconst 2, 29, 0, 0, 2), some (.if_icmp .ne 6, 32, 35, 0, 0), none, none, some (.bipush (-2), 34, 0, 0, (-2)), none, some (.ireturn, 35, 0, 0, 0), some (.aload_n 0, 36, 0, 0, 0), some (.invokevirtual 185, 39, 137, 992, 0), none, none, some (.iconst 1, 40, 0, 0, 1), some (.istore_n 3, 41, 0, 0, 0), some (.iload_n 3, 42, 0, 0, 0), some (.sipush 240, 45, 0, 0, 240), none, none, some (.if_icmp .gt 48, 48, 93, 0, 0), none, none, some (.aload_n 0, 49, 0, 0, 0), some (.aload_n 0, 50, 0, 0, 0), some (.getfield 43, 53, 817, 792, 1), none, none, some (.invokevirtual 170, 56, 110, 946, 0), none, none, some (.aload_n 0, 57, 0, 0, 0), some (.getfield 43, 60, 817, 792, 1), none, none, some (.iload_n 1, 61, 0, 0, 0), some (.iconst 1, 62, 0, 0, 1), some (.invokestatic 135, 65, 79, 910, 0), none, none, some (.iconst 2, 66, 0, 0, 2), some (.if_icmp .ne 21, 69, 87, 0, 0), none, none, some (.iload_n 2, 70, 0, 0, 0), some (.ifCond .ne 7, 73, 77, 0, 0), none, none, some (.iload_n 3, 74, 0, 0, 0), some (.goto 12, 77, 86, 0, 0), none, none, some (.aload_n 0, 78, 0, 0, 0), some (.getfield 43, 81, 817, 792, 1), none, none, some (.iload_n 1, 82, 0, 0, 0), some (.iconst 3, 83, 0, 0, 3), some (.invokestatic 135, 86, 79, 910, 0), none, none, some (.ireturn, 87, 0, 0, 0), some (.iinc 3 1, 90, 0, 0, 1), none, none, some (.goto (-49), 93, 41, 0, 0), none, none, some (.bipush (-4), 95, 0, 0, (-4)), none, some (.ireturn, 96, 0, 0, 0)]
/-- NeedleTelegraph.code -/
abbrev m_139 : Mth := (yX8_code, cX8_code, 4, (some .int), 3, false, 7)
def c_139 : List (Option Ent) := [some (.aload_n 0, 1, 0, 0, 0), some (.getfield 28, 4, 702, 411, 1), none, none, some (.iload_n 1, 5, 0, 0, 0), some (.invokevirtual 95, 8, 29, 461, 0), none, none, some (.ifCond .eq 10, 11, 18, 0, 0), none, none, some (.iload_n 2, 12, 0, 0, 0), some (.invokestatic 140, 15, 89, 487, 0), none, none, some (.ifCond .ne 5, 18, 20, 0, 0), none, none, some (.iconst (-1), 19, 0, 0, (-1)), some (.ireturn, 20, 0, 0, 0), some (.iconst 1, 21, 0, 0, 1), some (.istore_n 3, 22, 0, 0, 0), some (.iload_n 3, 23, 0, 0, 0), some (.sipush 256, 26, 0, 0, 256), none, none, some (.if_icmp .ge 31, 29, 57, 0, 0), none, none, some (.iload_n 3, 30, 0, 0, 0), some (.invokestatic 163, 33, 88, 558, 0), none, none, some (.ifCond .eq 18, 36, 51, 0, 0), none, none, some (.aload_n 0, 37, 0, 0, 0), some (.getfield 28, 40, 702, 411, 1), none, none, some (.iload_n 1, 41, 0, 0, 0), some (.iload_n 3, 42, 0, 0, 0), some (.invokevirtual 177, 45, 126, 588, 0), none, none, some (.iload_n 2, 46, 0, 0, 0), some (.if_icmp .ne 5, 49, 51, 0, 0), none, none, some (.iload_n 3, 50, 0, 0, 0), some (.ireturn, 51, 0, 0, 0), some (.iinc 3 1, 54, 0, 0, 1), none, none, some (.goto (-32), 57, 22, 0, 0), none, none, some (.bipush (-4), 59, 0, 0, (-4)), none, some (.ireturn, 60, 0, 0, 0)]
/-- NeedleTelegraphModel.code -/
abbrev m_140 : Mth := (yX9_code, cX9_code, 4, (some .int), 3, false, 8)
def c_140 : List (Option Ent) := [some (.aload_n 0, 1, 0, 0, 0), some (.iload_n 1, 2, 0, 0, 0), some (.invokevirtual 139, 5, 78, 902, 0), none, none, some (.ifCond .eq 14, 8, 19, 0, 0), none, none, some (.iload_n 2, 9, 0, 0, 0), some (.ifCond .eq 12, 12, 21, 0, 0), none, none, some (.iload_n 2, 13, 0, 0, 0), some (.invokestatic 149, 16, 94, 925, 0), none, none, some (.ifCond .ne 5, 19, 21, 0, 0), none, none, some (.iconst (-1), 20, 0, 0, (-1)), some (.ireturn, 21, 0, 0, 0), some (.iconst 1, 22, 0, 0, 1), some (.istore_n 3, 23, 0, 0, 0), some (.iload_n 3, 24, 0, 0, 0), some (.sipush 256, 27, 0, 0, 256), none, none, some (.if_icmp .ge 28, 30, 55, 0, 0), none, none, some (.iload_n 3, 31, 0, 0, 0), some (.invokestatic 149, 34, 94, 925, 0), none, none, some (.ifCond .eq 15, 37, 49, 0, 0), none, none, some (.aload_n 0, 38, 0, 0, 0), some (.iload_n 1, 39, 0, 0, 0), some (.iload_n 3, 40, 0, 0, 0), some (.invokevirtual 182, 43, 131, 980, 0), none, none, some (.iload_n 2, 44, 0, 0, 0), some (.if_icmp .ne 5, 47, 49, 0, 0), none, none, some (.iload_n 3, 48, 0, 0, 0), some (.ireturn, 49, 0, 0, 0), some (.iinc 3 1, 52, 0, 0, 1), none, none, some (.goto (-29), 55, 23, 0, 0), none, none, some (.bipush (-4), 57, 0, 0, (-4)), none, some (.ireturn, 58, 0, 0, 0)]
/-- NeedleTelegraph.could -/
abbrev m_141 : Mth := (yX8_could, cX8_could, 5, (some .int), 3, false, 7)
def c_141 : List (Option Ent) := [some (.aload_n 0, 1, 0, 0, 0), some (.getfield 28, 4, 702, 411, 1), none, none, some (.iload_n 1, 5, 0, 0, 0), some (.invokevirtual 95, 8, 29, 461, 0), none, none, some (.ifCond .eq 10, 11, 18, 0, 0), none, none, some (.iload_n 2, 12, 0, 0, 0), some (.invokestatic 140, 15, 89, 487, 0), none, none, some (.ifCond .ne 5, 18, 20, 0, 0), none, none, some (.iconst (-1), 19, 0, 0, (-1)), some (.ireturn, 20, 0, 0, 0), some (.iconst 0, 21, 0, 0, 0), some (.istore_n 3, 22, 0, 0, 0), some (.iconst 1, 23, 0, 0, 1), some (.istore 4, 25, 0, 0, 0), none, some (.iload 4, 27, 0, 0, 0), none, some (.sipush 1024, 30, 0, 0, 1024), none, none, some (.if_icmp .ge 34, 33, 64, 0, 0), none, none, some (.iload 4, 35, 0, 0, 0), none, some (.invokestatic 163, 38, 88, 558, 0), none, none, some (.ifCond .eq 20, 41, 58, 0, 0), none, none, some (.aload_n 0, 42, 0, 0, 0), some (.getfield 28, 45, 702, 411, 1), none, none, some (.iload_n 1, 46, 0, 0, 0), some (.iload 4, 48, 0, 0, 0), none, some (.invokevirtual 177, 51, 126, 588, 0), none, none, some (.iload_n 2, 52, 0, 0, 0), some (.if_icmp .ne 6, 55, 58, 0, 0), none, none, some (.iinc 3 1, 58, 0, 0, 1), none, none, some (.iinc 4 1, 61, 0, 0, 1), none, none, some (.goto (-36), 64, 25, 0, 0), none, none, some (.iload_n 3, 65, 0, 0, 0), some (.ireturn, 66, 0, 0, 0)]
/-- NeedleTelegraphModel.could -/
abbrev m_142 : Mth := (yX9_could, cX9_could, 5, (some .int), 3, false, 8)
def c_142 : List (Option Ent) := [some (.aload_n 0, 1, 0, 0, 0), some (.iload_n 1, 2, 0, 0, 0), some (.invokevirtual 139, 5, 78, 902, 0), none, none, some (.ifCond .eq 14, 8, 19, 0, 0), none, none, some (.iload_n 2, 9, 0, 0, 0), some (.ifCond .eq 12, 12, 21, 0, 0), none, none, some (.iload_n 2, 13, 0, 0, 0), some (.invokestatic 149, 16, 94, 925, 0), none, none, some (.ifCond .ne 5, 19, 21, 0, 0), none, none, some (.iconst (-1), 20, 0, 0, (-1)), some (.ireturn, 21, 0, 0, 0), some (.iconst 0, 22, 0, 0, 0), some (.istore_n 3, 23, 0, 0, 0), some (.iconst 1, 24, 0, 0, 1), some (.istore 4, 26, 0, 0, 0), none, some (.iload 4, 28, 0, 0, 0), none, some (.sipush 1024, 31, 0, 0, 1024), none, none, some (.if_icmp .ge 36, 34, 67, 0, 0), none, none, some (.iload_n 3, 35, 0, 0, 0), some (.iload 4, 37, 0, 0, 0), none, some (.invokestatic 149, 40, 94, 925, 0), none, none, some (.ifCond .eq 18, 43, 58, 0, 0), none, none, some (.aload_n 0, 44, 0, 0, 0), some (.iload_n 1, 45, 0, 0, 0), some (.iload 4, 47, 0, 0, 0), none, some (.invokevirtual 182, 50, 131, 980, 0), none, none, some (.iload_n 2, 51, 0, 0, 0), some (.if_icmp .ne 7, 54, 58, 0, 0), none, none, some (.iconst 1, 55, 0, 0, 1), some (.goto 4, 58, 59, 0, 0), none, none, some (.iconst 0, 59, 0, 0, 0), some (.iadd, 60, 0, 0, 0), some (.istore_n 3, 61, 0, 0, 0), some (.iinc 4 1, 64, 0, 0, 1), none, none, some (.goto (-38), 67, 26, 0, 0), none, none, some (.iload_n 3, 68, 0, 0, 0), some (.ireturn, 69, 0, 0, 0)]
/-- java/lang/Integer.bitCount -/
abbrev m_143 : Mth := (yJ6_bitCount_0f7a4, cJ6_bitCount_0f7a4, 1, (some .int), 1, true, 60)
def c_143 : List (Option Ent) := [some (.iload_n 0, 1, 0, 0, 0), some (.iload_n 0, 2, 0, 0, 0), some (.iconst 1, 3, 0, 0, 1), some (.iushr, 4, 0, 0, 0), some (.ldc_w 265, 7, 0, 640, 1431655765), none, none, some (.iand, 8, 0, 0, 0), some (.isub, 9, 0, 0, 0), some (.istore_n 0, 10, 0, 0, 0), some (.iload_n 0, 11, 0, 0, 0), some (.ldc_w 266, 14, 0, 641, 858993459), none, none, some (.iand, 15, 0, 0, 0), some (.iload_n 0, 16, 0, 0, 0), some (.iconst 2, 17, 0, 0, 2), some (.iushr, 18, 0, 0, 0), some (.ldc_w 266, 21, 0, 641, 858993459), none, none, some (.iand, 22, 0, 0, 0), some (.iadd, 23, 0, 0, 0), some (.istore_n 0, 24, 0, 0, 0), some (.iload_n 0, 25, 0, 0, 0), some (.iload_n 0, 26, 0, 0, 0), some (.iconst 4, 27, 0, 0, 4), some (.iushr, 28, 0, 0, 0), some (.iadd, 29, 0, 0, 0), some (.ldc_w 267, 32, 0, 642, 252645135), none, none, some (.iand, 33, 0, 0, 0), some (.istore_n 0, 34, 0, 0, 0), some (.iload_n 0, 35, 0, 0, 0), some (.iload_n 0, 36, 0, 0, 0), some (.bipush 8, 38, 0, 0, 8), none, some (.iushr, 39, 0, 0, 0), some (.iadd, 40, 0, 0, 0), some (.istore_n 0, 41, 0, 0, 0), some (.iload_n 0, 42, 0, 0, 0), some (.iload_n 0, 43, 0, 0, 0), some (.bipush 16, 45, 0, 0, 16), none, some (.iushr, 46, 0, 0, 0), some (.iadd, 47, 0, 0, 0), some (.istore_n 0, 48, 0, 0, 0), some (.iload_n 0, 49, 0, 0, 0), some (.bipush 63, 51, 0, 0, 63), none, some (.iand, 52, 0, 0, 0), some (.ireturn, 53, 0, 0, 0)]
/-- NeedleTelegraph.bring -/
abbrev m_144 : Mth := (yX8_bring, cX8_bring, 5, (some .int), 2, false, 7)
def c_144 : List (Option Ent) := [some (.iload_n 1, 1, 0, 0, 0), some (.iconst 0, 2, 0, 0, 0), some (.iconst 1, 3, 0, 0, 1), some (.invokestatic 86, 6, 22, 439, 0), none, none, some (.ifCond .ne 5, 9, 11, 0, 0), none, none, some (.iconst (-1), 10, 0, 0, (-1)), some (.ireturn, 11, 0, 0, 0), some (.iconst 0, 12, 0, 0, 0), some (.istore_n 2, 13, 0, 0, 0), some (.iconst 0, 14, 0, 0, 0), some (.istore_n 3, 15, 0, 0, 0), some (.iload_n 3, 16, 0, 0, 0), some (.aload_n 0, 17, 0, 0, 0), some (.getfield 35, 20, 703, 412, 1), none, none, some (.invokevirtual 166, 23, 115, 559, 0), none, none, some (.if_icmp .ge 72, 26, 95, 0, 0), none, none, some (.aload_n 0, 27, 0, 0, 0), some (.getfield 35, 30, 703, 412, 1), none, none, some (.iload_n 3, 31, 0, 0, 0), some (.invokevirtual 115, 34, 30, 482, 0), none, none, some (.astore 4, 36, 0, 0, 0), none, some (.aload 4, 38, 0, 0, 0), none, some (.getfield 125, 41, 101, 119, 0), none, none, some (.iconst 2, 42, 0, 0, 2), some (.if_icmp .ne 6, 45, 48, 0, 0), none, none, some (.goto 44, 48, 89, 0, 0), none, none, some (.aload 4, 50, 0, 0, 0), none, some (.aload_n 0, 51, 0, 0, 0), some (.getfield 28, 54, 702, 411, 1), none, none, some (.aload_n 0, 55, 0, 0, 0), some (.getfield 35, 58, 703, 412, 1), none, none, some (.invokevirtual 167, 61, 116, 563, 0), none, none, some (.invokevirtual 183, 64, 133, 611, 0), none, none, some (.sipush 240, 67, 0, 0, 240), none, none, some (.if_icmp .le 6, 70, 73, 0, 0), none, none, some (.bipush (-4), 72, 0, 0, (-4)), none, some (.ireturn, 73, 0, 0, 0), some (.iload_n 2, 74, 0, 0, 0), some (.aload_n 0, 75, 0, 0, 0), some (.getfield 35, 78, 703, 412, 1), none, none, some (.aload 4, 80, 0, 0, 0), none, some (.aload_n 0, 81, 0, 0, 0), some (.getfield 28, 84, 702, 411, 1), none, none, some (.invokevirtual 186, 87, 135, 616, 0), none, none, some (.ior, 88, 0, 0, 0), some (.istore_n 2, 89, 0, 0, 0), some (.iinc 3 1, 92, 0, 0, 1), none, none, some (.goto (-77), 95, 15, 0, 0), none, none, some (.iload_n 1, 96, 0, 0, 0), some (.ifCond .ne 10, 99, 106, 0, 0), none, none, some (.iload_n 2, 100, 0, 0, 0), some (.invokestatic 190, 103, 143, 637, 0), none, none, some (.goto 4, 106, 107, 0, 0), none, none, some (.iload_n 2, 107, 0, 0, 0), some (.ireturn, 108, 0, 0, 0)]
/-- NeedleTelegraphModel.bits -/
abbrev m_145 : Mth := (yX9_bits, cX9_bits, 3, (some .int), 1, true, 8)
def c_145 : List (Option Ent) := [some (.iconst 0, 1, 0, 0, 0), some (.istore_n 1, 2, 0, 0, 0), some (.iload_n 0, 3, 0, 0, 0), some (.istore_n 2, 4, 0, 0, 0), some (.iload_n 2, 5, 0, 0, 0), some (.ifCond .eq 15, 8, 20, 0, 0), none, none, some (.iinc 1 1, 11, 0, 0, 1), none, none, some (.iload_n 2, 12, 0, 0, 0), some (.iload_n 2, 13, 0, 0, 0), some (.iconst 1, 14, 0, 0, 1), some (.isub, 15, 0, 0, 0), some (.iand, 16, 0, 0, 0), some (.istore_n 2, 17, 0, 0, 0), some (.goto (-13), 20, 4, 0, 0), none, none, some (.iload_n 1, 21, 0, 0, 0), some (.ireturn, 22, 0, 0, 0)]
/-- NeedleTelegraphModel.allOut -/
abbrev m_146 : Mth := (yX9_allOut, cX9_allOut, 3, (some .boolean), 2, false, 8)
def c_146 : List (Option Ent) := [some (.aload_n 0, 1, 0, 0, 0), some (.invokevirtual 185, 4, 137, 992, 0), none, none, some (.aload_n 0, 5, 0, 0, 0), some (.getfield 43, 8, 817, 792, 1), none, none, some (.iconst 1, 9, 0, 0, 1), some (.dup2, 10, 0, 0, 0), some (.iaload, 11, 0, 0, 0), some (.iload_n 1, 12, 0, 0, 0), some (.iconst (-1), 13, 0, 0, (-1)), some (.ixor, 14, 0, 0, 0), some (.iand, 15, 0, 0, 0), some (.iastore, 16, 0, 0, 0), some (.iconst 0, 17, 0, 0, 0), some (.istore_n 2, 18, 0, 0, 0), some (.iload_n 2, 19, 0, 0, 0), some (.sipush 240, 22, 0, 0, 240), none, none, some (.if_icmp .ge 17, 25, 39, 0, 0), none, none, some (.aload_n 0, 26, 0, 0, 0), some (.aload_n 0, 27, 0, 0, 0), some (.getfield 43, 30, 817, 792, 1), none, none, some (.invokevirtual 170, 33, 110, 946, 0), none, none, some (.iinc 2 1, 36, 0, 0, 1), none, none, some (.goto (-18), 39, 18, 0, 0), none, none, some (.aload_n 0, 40, 0, 0, 0), some (.getfield 43, 43, 817, 792, 1), none, none, some (.invokestatic 174, 46, 111, 957, 0), none, none, some (.aload_n 0, 47, 0, 0, 0), some (.getfield 43, 50, 817, 792, 1), none, none, some (.iconst 2, 51, 0, 0, 2), some (.iaload, 52, 0, 0, 0), some (.if_icmp .ne 7, 55, 59, 0, 0), none, none, some (.iconst 1, 56, 0, 0, 1), some (.goto 4, 59, 60, 0, 0), none, none, some (.iconst 0, 60, 0, 0, 0), some (.ireturn, 61, 0, 0, 0)]
/-- NeedleTelegraphModel.bring -/
abbrev m_147 : Mth := (yX9_bring, cX9_bring, 5, (some .int), 2, false, 8)
def c_147 : List (Option Ent) := [some (.iload_n 1, 1, 0, 0, 0), some (.iconst 0, 2, 0, 0, 0), some (.iconst 1, 3, 0, 0, 1), some (.invokestatic 73, 6, 59, 855, 0), none, none, some (.ifCond .ne 5, 9, 11, 0, 0), none, none, some (.iconst (-1), 10, 0, 0, (-1)), some (.ireturn, 11, 0, 0, 0), some (.bipush (-4), 13, 0, 0, (-4)), none, some (.istore_n 2, 14, 0, 0, 0), some (.iconst 0, 15, 0, 0, 0), some (.istore_n 3, 16, 0, 0, 0), some (.iload_n 3, 17, 0, 0, 0), some (.aload_n 0, 18, 0, 0, 0), some (.getfield 40, 21, 816, 791, 1), none, none, some (.iconst 1, 22, 0, 0, 1), some (.iaload, 23, 0, 0, 0), some (.if_icmp .gt 65, 26, 88, 0, 0), none, none, some (.iload_n 3, 27, 0, 0, 0), some (.aload_n 0, 28, 0, 0, 0), some (.getfield 40, 31, 816, 791, 1), none, none, some (.iconst 1, 32, 0, 0, 1), some (.iaload, 33, 0, 0, 0), some (.iconst (-1), 34, 0, 0, (-1)), some (.ixor, 35, 0, 0, 0), some (.iand, 36, 0, 0, 0), some (.ifCond .ne 24, 39, 60, 0, 0), none, none, some (.iload_n 2, 40, 0, 0, 0), some (.bipush (-4), 42, 0, 0, (-4)), none, some (.if_icmp .eq 14, 45, 56, 0, 0), none, none, some (.iload_n 3, 46, 0, 0, 0), some (.invokestatic 188, 49, 145, 1008, 0), none, none, some (.iload_n 2, 50, 0, 0, 0), some (.invokestatic 188, 53, 145, 1008, 0), none, none, some (.if_icmp .ge 7, 56, 60, 0, 0), none, none, some (.iconst 1, 57, 0, 0, 1), some (.goto 4, 60, 61, 0, 0), none, none, some (.iconst 0, 61, 0, 0, 0), some (.istore 4, 63, 0, 0, 0), none, some (.iload 4, 65, 0, 0, 0), none, some (.ifCond .eq 15, 68, 80, 0, 0), none, none, some (.aload_n 0, 69, 0, 0, 0), some (.iload_n 3, 70, 0, 0, 0), some (.invokevirtual 191, 73, 146, 1011, 0), none, none, some (.ifCond .eq 7, 76, 80, 0, 0), none, none, some (.iload_n 3, 77, 0, 0, 0), some (.goto 4, 80, 81, 0, 0), none, none, some (.iload_n 2, 81, 0, 0, 0), some (.istore_n 2, 82, 0, 0, 0), some (.iinc 3 1, 85, 0, 0, 1), none, none, some (.goto (-69), 88, 16, 0, 0), none, none, some (.iload_n 2, 89, 0, 0, 0), some (.bipush (-4), 91, 0, 0, (-4)), none, some (.if_icmp .ne 8, 94, 99, 0, 0), none, none, some (.bipush (-4), 96, 0, 0, (-4)), none, some (.goto 15, 99, 111, 0, 0), none, none, some (.iload_n 1, 100, 0, 0, 0), some (.ifCond .ne 10, 103, 110, 0, 0), none, none, some (.iload_n 2, 104, 0, 0, 0), some (.invokestatic 188, 107, 145, 1008, 0), none, none, some (.goto 4, 110, 111, 0, 0), none, none, some (.iload_n 2, 111, 0, 0, 0), some (.ireturn, 112, 0, 0, 0)]
/-- NeedleTelegraph$Moment.areTogether -/
abbrev m_148 : Mth := (yX2_areTogether, cX2_areTogether, 4, (some .boolean), 3, false, 2)
def c_148 : List (Option Ent) := [some (.aload_n 0, 1, 0, 0, 0), some (.iload_n 2, 2, 0, 0, 0), some (.invokevirtual 32, 5, 30, 341, 0), none, none, some (.astore_n 3, 6, 0, 0, 0), some (.aload_n 3, 7, 0, 0, 0), some (.getfield 62, 10, 101, 120, 0), none, none, some (.iconst 1, 11, 0, 0, 1), some (.if_icmp .ne 22, 14, 33, 0, 0), none, none, some (.aload_n 0, 15, 0, 0, 0), some (.iload_n 1, 16, 0, 0, 0), some (.invokevirtual 32, 19, 30, 341, 0), none, none, some (.aload_n 3, 20, 0, 0, 0), some (.getfield 65, 23, 102, 123, 0), none, none, some (.invokevirtual 68, 26, 75, 470, 0), none, none, some (.ifCond .eq 7, 29, 33, 0, 0), none, none, some (.iconst 1, 30, 0, 0, 1), some (.goto 4, 33, 34, 0, 0), none, none, some (.iconst 0, 34, 0, 0, 0), some (.ireturn, 35, 0, 0, 0)]
/-- NeedleTelegraph.meet -/
abbrev m_149 : Mth := (yX8_meet, cX8_meet, 4, (some .int), 3, false, 7)
def c_149 : List (Option Ent) := [some (.aload_n 0, 1, 0, 0, 0), some (.getfield 35, 4, 703, 412, 1), none, none, some (.iload_n 1, 5, 0, 0, 0), some (.invokevirtual 114, 8, 82, 478, 0), none, none, some (.ifCond .eq 19, 11, 27, 0, 0), none, none, some (.aload_n 0, 12, 0, 0, 0), some (.getfield 35, 15, 703, 412, 1), none, none, some (.iload_n 2, 16, 0, 0, 0), some (.invokevirtual 114, 19, 82, 478, 0), none, none, some (.ifCond .eq 8, 22, 27, 0, 0), none, none, some (.iload_n 1, 23, 0, 0, 0), some (.iload_n 2, 24, 0, 0, 0), some (.if_icmp .ne 5, 27, 29, 0, 0), none, none, some (.iconst (-1), 28, 0, 0, (-1)), some (.ireturn, 29, 0, 0, 0), some (.aload_n 0, 30, 0, 0, 0), some (.getfield 39, 33, 704, 413, 1), none, none, some (.aload_n 0, 34, 0, 0, 0), some (.getfield 35, 37, 703, 412, 1), none, none, some (.invokevirtual 195, 40, 46, 389, 0), none, none, some (.iconst 0, 41, 0, 0, 0), some (.istore_n 3, 42, 0, 0, 0), some (.iload_n 3, 43, 0, 0, 0), some (.sipush 240, 46, 0, 0, 240), none, none, some (.if_icmp .gt 34, 49, 80, 0, 0), none, none, some (.aload_n 0, 50, 0, 0, 0), some (.getfield 39, 53, 704, 413, 1), none, none, some (.iload_n 1, 54, 0, 0, 0), some (.iload_n 2, 55, 0, 0, 0), some (.invokevirtual 198, 58, 148, 647, 0), none, none, some (.ifCond .eq 5, 61, 63, 0, 0), none, none, some (.iload_n 3, 62, 0, 0, 0), some (.ireturn, 63, 0, 0, 0), some (.aload_n 0, 64, 0, 0, 0), some (.getfield 39, 67, 704, 413, 1), none, none, some (.aload_n 0, 68, 0, 0, 0), some (.getfield 28, 71, 702, 411, 1), none, none, some (.invokevirtual 153, 74, 104, 524, 0), none, none, some (.iinc 3 1, 77, 0, 0, 1), none, none, some (.goto (-35), 80, 42, 0, 0), none, none, some (.bipush (-4), 82, 0, 0, (-4)), none, some (.ireturn, 83, 0, 0, 0)]
/-- NeedleTelegraphModel.isMet -/
abbrev m_150 : Mth := (yX9_isMet, cX9_isMet, 3, (some .boolean), 3, true, 8)
def c_150 : List (Option Ent) := [some (.aload_n 0, 1, 0, 0, 0), some (.iload_n 1, 2, 0, 0, 0), some (.iconst 1, 3, 0, 0, 1), some (.invokestatic 135, 6, 79, 910, 0), none, none, some (.iconst 1, 7, 0, 0, 1), some (.if_icmp .ne 32, 10, 39, 0, 0), none, none, some (.aload_n 0, 11, 0, 0, 0), some (.iload_n 2, 12, 0, 0, 0), some (.iconst 1, 13, 0, 0, 1), some (.invokestatic 135, 16, 79, 910, 0), none, none, some (.iconst 1, 17, 0, 0, 1), some (.if_icmp .ne 22, 20, 39, 0, 0), none, none, some (.aload_n 0, 21, 0, 0, 0), some (.iload_n 1, 22, 0, 0, 0), some (.iconst 2, 23, 0, 0, 2), some (.invokestatic 135, 26, 79, 910, 0), none, none, some (.aload_n 0, 27, 0, 0, 0), some (.iload_n 2, 28, 0, 0, 0), some (.iconst 2, 29, 0, 0, 2), some (.invokestatic 135, 32, 79, 910, 0), none, none, some (.if_icmp .ne 7, 35, 39, 0, 0), none, none, some (.iconst 1, 36, 0, 0, 1), some (.goto 4, 39, 40, 0, 0), none, none, some (.iconst 0, 40, 0, 0, 0), some (.ireturn, 41, 0, 0, 0)]
/-- NeedleTelegraphModel.meet -/
abbrev m_151 : Mth := (yX9_meet, cX9_meet, 4, (some .int), 3, false, 8)
def c_151 : List (Option Ent) := [some (.aload_n 0, 1, 0, 0, 0), some (.iload_n 1, 2, 0, 0, 0), some (.invokevirtual 146, 5, 84, 917, 0), none, none, some (.ifCond .eq 16, 8, 21, 0, 0), none, none, some (.aload_n 0, 9, 0, 0, 0), some (.iload_n 2, 10, 0, 0, 0), some (.invokevirtual 146, 13, 84, 917, 0), none, none, some (.ifCond .eq 8, 16, 21, 0, 0), none, none, some (.iload_n 1, 17, 0, 0, 0), some (.iload_n 2, 18, 0, 0, 0), some (.if_icmp .ne 5, 21, 23, 0, 0), none, none, some (.iconst (-1), 22, 0, 0, (-1)), some (.ireturn, 23, 0, 0, 0), some (.aload_n 0, 24, 0, 0, 0), some (.invokevirtual 185, 27, 137, 992, 0), none, none, some (.iconst 0, 28, 0, 0, 0), some (.istore_n 3, 29, 0, 0, 0), some (.iload_n 3, 30, 0, 0, 0), some (.sipush 240, 33, 0, 0, 240), none, none, some (.if_icmp .gt 31, 36, 64, 0, 0), none, none, some (.aload_n 0, 37, 0, 0, 0), some (.getfield 43, 40, 817, 792, 1), none, none, some (.iload_n 1, 41, 0, 0, 0), some (.iload_n 2, 42, 0, 0, 0), some (.invokestatic 194, 45, 150, 1019, 0), none, none, some (.ifCond .eq 5, 48, 50, 0, 0), none, none, some (.iload_n 3, 49, 0, 0, 0), some (.ireturn, 50, 0, 0, 0), some (.aload_n 0, 51, 0, 0, 0), some (.aload_n 0, 52, 0, 0, 0), some (.getfield 43, 55, 817, 792, 1), none, none, some (.invokevirtual 170, 58, 110, 946, 0), none, none, some (.iinc 3 1, 61, 0, 0, 1), none, none, some (.goto (-32), 64, 29, 0, 0), none, none, some (.bipush (-4), 66, 0, 0, (-4)), none, some (.ireturn, 67, 0, 0, 0)]
/-- NeedleTelegraph$Valley.howManyKnitBy -/
abbrev m_152 : Mth := (yX7_howManyKnitBy, cX7_howManyKnitBy, 4, (some .int), 2, false, 6)
def c_152 : List (Option Ent) := [some (.iconst 0, 1, 0, 0, 0), some (.istore_n 2, 2, 0, 0, 0), some (.iconst 0, 3, 0, 0, 0), some (.istore_n 3, 4, 0, 0, 0), some (.iload_n 3, 5, 0, 0, 0), some (.aload_n 0, 6, 0, 0, 0), some (.getfield 21, 9, 603, 93, 0), none, none, some (.if_icmp .ge 29, 12, 38, 0, 0), none, none, some (.iload_n 2, 13, 0, 0, 0), some (.aload_n 0, 14, 0, 0, 0), some (.iload_n 3, 15, 0, 0, 0), some (.invokevirtual 67, 18, 127, 602, 0), none, none, some (.iload_n 1, 19, 0, 0, 0), some (.invokestatic 70, 22, 34, 606, 1), none, none, some (.ifCond .eq 7, 25, 29, 0, 0), none, none, some (.iconst 1, 26, 0, 0, 1), some (.goto 4, 29, 30, 0, 0), none, none, some (.iconst 0, 30, 0, 0, 0), some (.iadd, 31, 0, 0, 0), some (.istore_n 2, 32, 0, 0, 0), some (.iinc 3 1, 35, 0, 0, 1), none, none, some (.goto (-31), 38, 4, 0, 0), none, none, some (.iload_n 2, 39, 0, 0, 0), some (.ireturn, 40, 0, 0, 0)]
/-- NeedleTelegraph.hangs -/
abbrev m_153 : Mth := (yX8_hangs, cX8_hangs, 6, (some .int), 2, false, 7)
def c_153 : List (Option Ent) := [some (.iload_n 1, 1, 0, 0, 0), some (.iconst 0, 2, 0, 0, 0), some (.iconst 1, 3, 0, 0, 1), some (.invokestatic 86, 6, 22, 439, 0), none, none, some (.ifCond .ne 5, 9, 11, 0, 0), none, none, some (.iconst (-1), 10, 0, 0, (-1)), some (.ireturn, 11, 0, 0, 0), some (.iconst 0, 12, 0, 0, 0), some (.istore_n 2, 13, 0, 0, 0), some (.iconst 0, 14, 0, 0, 0), some (.istore_n 3, 15, 0, 0, 0), some (.iconst 0, 16, 0, 0, 0), some (.istore 4, 18, 0, 0, 0), none, some (.iload 4, 20, 0, 0, 0), none, some (.aload_n 0, 21, 0, 0, 0), some (.getfield 28, 24, 702, 411, 1), none, none, some (.invokevirtual 92, 27, 72, 453, 0), none, none, some (.if_icmp .ge 32, 30, 59, 0, 0), none, none, some (.aload_n 0, 31, 0, 0, 0), some (.getfield 28, 34, 702, 411, 1), none, none, some (.iload 4, 36, 0, 0, 0), none, some (.invokevirtual 202, 39, 152, 655, 0), none, none, some (.istore 5, 41, 0, 0, 0), none, some (.iload 5, 43, 0, 0, 0), none, some (.iload_n 3, 44, 0, 0, 0), some (.if_icmp .le 9, 47, 53, 0, 0), none, none, some (.iload 4, 49, 0, 0, 0), none, some (.istore_n 2, 50, 0, 0, 0), some (.iload 5, 52, 0, 0, 0), none, some (.istore_n 3, 53, 0, 0, 0), some (.iinc 4 1, 56, 0, 0, 1), none, none, some (.goto (-38), 59, 18, 0, 0), none, none, some (.iload_n 1, 60, 0, 0, 0), some (.ifCond .ne 7, 63, 67, 0, 0), none, none, some (.iload_n 2, 64, 0, 0, 0), some (.goto 4, 67, 68, 0, 0), none, none, some (.iload_n 3, 68, 0, 0, 0), some (.ireturn, 69, 0, 0, 0)]
/-- NeedleTelegraphModel.hanging -/
abbrev m_154 : Mth := (yX9_hanging, cX9_hanging, 6, (some .int), 2, false, 8)
def c_154 : List (Option Ent) := [some (.iconst 0, 1, 0, 0, 0), some (.istore_n 2, 2, 0, 0, 0), some (.iconst 0, 3, 0, 0, 0), some (.istore_n 3, 4, 0, 0, 0), some (.iload_n 3, 5, 0, 0, 0), some (.aload_n 0, 6, 0, 0, 0), some (.getfield 119, 9, 812, 787, 0), none, none, some (.if_icmp .ge 84, 12, 93, 0, 0), none, none, some (.iload_n 3, 13, 0, 0, 0), some (.iload_n 1, 14, 0, 0, 0), some (.if_icmp .ne 7, 17, 21, 0, 0), none, none, some (.iconst 1, 18, 0, 0, 1), some (.goto 4, 21, 22, 0, 0), none, none, some (.iconst 0, 22, 0, 0, 0), some (.istore 4, 24, 0, 0, 0), none, some (.iload_n 3, 25, 0, 0, 0), some (.istore 5, 27, 0, 0, 0), none, some (.aload_n 0, 28, 0, 0, 0), some (.getfield 37, 31, 815, 790, 1), none, none, some (.iload 5, 33, 0, 0, 0), none, some (.iaload, 34, 0, 0, 0), some (.iload 5, 36, 0, 0, 0), none, some (.if_icmp .eq 38, 39, 74, 0, 0), none, none, some (.iload 4, 41, 0, 0, 0), none, some (.ifCond .ne 14, 44, 55, 0, 0), none, none, some (.aload_n 0, 45, 0, 0, 0), some (.getfield 37, 48, 815, 790, 1), none, none, some (.iload 5, 50, 0, 0, 0), none, some (.iaload, 51, 0, 0, 0), some (.iload_n 1, 52, 0, 0, 0), some (.if_icmp .ne 7, 55, 59, 0, 0), none, none, some (.iconst 1, 56, 0, 0, 1), some (.goto 4, 59, 60, 0, 0), none, none, some (.iconst 0, 60, 0, 0, 0), some (.istore 4, 62, 0, 0, 0), none, some (.aload_n 0, 63, 0, 0, 0), some (.getfield 37, 66, 815, 790, 1), none, none, some (.iload 5, 68, 0, 0, 0), none, some (.iaload, 69, 0, 0, 0), some (.istore 5, 71, 0, 0, 0), none, some (.goto (-44), 74, 27, 0, 0), none, none, some (.iload_n 2, 75, 0, 0, 0), some (.iload 4, 77, 0, 0, 0), none, some (.ifCond .eq 7, 80, 84, 0, 0), none, none, some (.iconst 1, 81, 0, 0, 1), some (.goto 4, 84, 85, 0, 0), none, none, some (.iconst 0, 85, 0, 0, 0), some (.iadd, 86, 0, 0, 0), some (.istore_n 2, 87, 0, 0, 0), some (.iinc 3 1, 90, 0, 0, 1), none, none, some (.goto (-86), 93, 4, 0, 0), none, none, some (.iload_n 2, 94, 0, 0, 0), some (.ireturn, 95, 0, 0, 0)]
/-- NeedleTelegraphModel.hangs -/
abbrev m_155 : Mth := (yX9_hangs, cX9_hangs, 4, (some .int), 2, false, 8)
def c_155 : List (Option Ent) := [some (.iload_n 1, 1, 0, 0, 0), some (.iconst 0, 2, 0, 0, 0), some (.iconst 1, 3, 0, 0, 1), some (.invokestatic 73, 6, 59, 855, 0), none, none, some (.ifCond .ne 5, 9, 11, 0, 0), none, none, some (.iconst (-1), 10, 0, 0, (-1)), some (.ireturn, 11, 0, 0, 0), some (.iconst 0, 12, 0, 0, 0), some (.istore_n 2, 13, 0, 0, 0), some (.iconst 1, 14, 0, 0, 1), some (.istore_n 3, 15, 0, 0, 0), some (.iload_n 3, 16, 0, 0, 0), some (.aload_n 0, 17, 0, 0, 0), some (.getfield 119, 20, 812, 787, 0), none, none, some (.if_icmp .ge 28, 23, 48, 0, 0), none, none, some (.aload_n 0, 24, 0, 0, 0), some (.iload_n 3, 25, 0, 0, 0), some (.invokevirtual 198, 28, 154, 1026, 0), none, none, some (.aload_n 0, 29, 0, 0, 0), some (.iload_n 2, 30, 0, 0, 0), some (.invokevirtual 198, 33, 154, 1026, 0), none, none, some (.if_icmp .le 7, 36, 40, 0, 0), none, none, some (.iload_n 3, 37, 0, 0, 0), some (.goto 4, 40, 41, 0, 0), none, none, some (.iload_n 2, 41, 0, 0, 0), some (.istore_n 2, 42, 0, 0, 0), some (.iinc 3 1, 45, 0, 0, 1), none, none, some (.goto (-30), 48, 15, 0, 0), none, none, some (.iload_n 1, 49, 0, 0, 0), some (.ifCond .ne 7, 52, 56, 0, 0), none, none, some (.iload_n 2, 53, 0, 0, 0), some (.goto 8, 56, 61, 0, 0), none, none, some (.aload_n 0, 57, 0, 0, 0), some (.iload_n 2, 58, 0, 0, 0), some (.invokevirtual 198, 61, 154, 1026, 0), none, none, some (.ireturn, 62, 0, 0, 0)]
/-- NeedleTelegraph$Seen.add -/
abbrev m_156 : Mth := (yX6_add, cX6_add, 4, (some .boolean), 4, false, 5)
def c_156 : List (Option Ent) := [some (.aload_n 0, 1, 0, 0, 0), some (.getfield 21, 4, 503, 207, 0), none, none, some (.bipush 6, 6, 0, 0, 6), none, some (.if_icmp .lt 5, 9, 11, 0, 0), none, none, some (.iconst 0, 10, 0, 0, 0), some (.ireturn, 11, 0, 0, 0), some (.aload_n 0, 12, 0, 0, 0), some (.getfield 9, 15, 500, 204, 1), none, none, some (.aload_n 0, 16, 0, 0, 0), some (.getfield 21, 19, 503, 207, 0), none, none, some (.iload_n 1, 20, 0, 0, 0), some (.invokestatic 25, 23, 15, 667, 1), none, none, some (.aload_n 0, 24, 0, 0, 0), some (.getfield 15, 27, 501, 205, 1), none, none, some (.aload_n 0, 28, 0, 0, 0), some (.getfield 21, 31, 503, 207, 0), none, none, some (.iload_n 2, 32, 0, 0, 0), some (.invokestatic 25, 35, 15, 667, 1), none, none, some (.aload_n 0, 36, 0, 0, 0), some (.getfield 18, 39, 502, 206, 1), none, none, some (.aload_n 0, 40, 0, 0, 0), some (.getfield 21, 43, 503, 207, 0), none, none, some (.iload_n 3, 44, 0, 0, 0), some (.invokestatic 25, 47, 15, 667, 1), none, none, some (.aload_n 0, 48, 0, 0, 0), some (.dup, 49, 0, 0, 0), some (.getfield 21, 52, 503, 207, 0), none, none, some (.iconst 1, 53, 0, 0, 1), some (.iadd, 54, 0, 0, 0), some (.putfield 21, 57, 503, 207, 0), none, none, some (.iconst 1, 58, 0, 0, 1), some (.ireturn, 59, 0, 0, 0)]
/-- NeedleTelegraph$Seen.size -/
abbrev m_157 : Mth := (yX6_size, cX6_size, 1, (some .int), 1, false, 5)
def c_157 : List (Option Ent) := [some (.aload_n 0, 1, 0, 0, 0), some (.getfield 21, 4, 503, 207, 0), none, none, some (.ireturn, 5, 0, 0, 0)]
/-- NeedleTelegraph.see -/
abbrev m_158 : Mth := (yX8_see, cX8_see, 4, (some .int), 4, false, 7)
def c_158 : List (Option Ent) := [some (.aload_n 0, 1, 0, 0, 0), some (.getfield 28, 4, 702, 411, 1), none, none, some (.iload_n 1, 5, 0, 0, 0), some (.invokevirtual 95, 8, 29, 461, 0), none, none, some (.ifCond .eq 17, 11, 25, 0, 0), none, none, some (.iload_n 2, 12, 0, 0, 0), some (.invokestatic 163, 15, 88, 558, 0), none, none, some (.ifCond .eq 10, 18, 25, 0, 0), none, none, some (.iload_n 3, 19, 0, 0, 0), some (.invokestatic 140, 22, 89, 487, 0), none, none, some (.ifCond .ne 5, 25, 27, 0, 0), none, none, some (.iconst (-1), 26, 0, 0, (-1)), some (.ireturn, 27, 0, 0, 0), some (.aload_n 0, 28, 0, 0, 0), some (.getfield 57, 31, 707, 416, 1), none, none, some (.iload_n 1, 32, 0, 0, 0), some (.iload_n 2, 33, 0, 0, 0), some (.iload_n 3, 34, 0, 0, 0), some (.invokevirtual 205, 37, 156, 663, 0), none, none, some (.ifCond .eq 13, 40, 50, 0, 0), none, none, some (.aload_n 0, 41, 0, 0, 0), some (.getfield 57, 44, 707, 416, 1), none, none, some (.invokevirtual 206, 47, 157, 668, 0), none, none, some (.goto 5, 50, 52, 0, 0), none, none, some (.bipush (-3), 52, 0, 0, (-3)), none, some (.ireturn, 53, 0, 0, 0)]
/-- NeedleTelegraphModel.see -/
abbrev m_159 : Mth := (yX9_see, cX9_see, 4, (some .int), 4, false, 8)
def c_159 : List (Option Ent) := [some (.aload_n 0, 1, 0, 0, 0), some (.iload_n 1, 2, 0, 0, 0), some (.invokevirtual 139, 5, 78, 902, 0), none, none, some (.ifCond .eq 21, 8, 26, 0, 0), none, none, some (.iload_n 2, 9, 0, 0, 0), some (.invokestatic 149, 12, 94, 925, 0), none, none, some (.ifCond .eq 14, 15, 26, 0, 0), none, none, some (.iload_n 3, 16, 0, 0, 0), some (.ifCond .eq 12, 19, 28, 0, 0), none, none, some (.iload_n 3, 20, 0, 0, 0), some (.invokestatic 149, 23, 94, 925, 0), none, none, some (.ifCond .ne 5, 26, 28, 0, 0), none, none, some (.iconst (-1), 27, 0, 0, (-1)), some (.ireturn, 28, 0, 0, 0), some (.aload_n 0, 29, 0, 0, 0), some (.getfield 132, 32, 821, 796, 0), none, none, some (.bipush 6, 34, 0, 0, 6), none, some (.if_icmp .ne 6, 37, 40, 0, 0), none, none, some (.bipush (-3), 39, 0, 0, (-3)), none, some (.ireturn, 40, 0, 0, 0), some (.aload_n 0, 41, 0, 0, 0), some (.getfield 49, 44, 822, 797, 1), none, none, some (.iconst 3, 45, 0, 0, 3), some (.aload_n 0, 46, 0, 0, 0), some (.getfield 132, 49, 821, 796, 0), none, none, some (.imul, 50, 0, 0, 0), some (.iload_n 1, 51, 0, 0, 0), some (.iastore, 52, 0, 0, 0), some (.aload_n 0, 53, 0, 0, 0), some (.getfield 49, 56, 822, 797, 1), none, none, some (.iconst 3, 57, 0, 0, 3), some (.aload_n 0, 58, 0, 0, 0), some (.getfield 132, 61, 821, 796, 0), none, none, some (.imul, 62, 0, 0, 0), some (.iconst 1, 63, 0, 0, 1), some (.iadd, 64, 0, 0, 0), some (.iload_n 2, 65, 0, 0, 0), some (.iastore, 66, 0, 0, 0), some (.aload_n 0, 67, 0, 0, 0), some (.getfield 49, 70, 822, 797, 1), none, none, some (.iconst 3, 71, 0, 0, 3), some (.aload_n 0, 72, 0, 0, 0), some (.getfield 132, 75, 821, 796, 0), none, none, some (.imul, 76, 0, 0, 0), some (.iconst 2, 77, 0, 0, 2), some (.iadd, 78, 0, 0, 0), some (.iload_n 3, 79, 0, 0, 0), some (.iastore, 80, 0, 0, 0), some (.aload_n 0, 81, 0, 0, 0), some (.dup, 82, 0, 0, 0), some (.getfield 132, 85, 821, 796, 0), none, none, some (.iconst 1, 86, 0, 0, 1), some (.iadd, 87, 0, 0, 0), some (.putfield 132, 90, 821, 796, 0), none, none, some (.aload_n 0, 91, 0, 0, 0), some (.getfield 132, 94, 821, 796, 0), none, none, some (.ireturn, 95, 0, 0, 0)]
/-- NeedleTelegraph.forget -/
abbrev m_160 : Mth := (yX8_forget, cX8_forget, 2, (some .int), 1, false, 7)
def c_160 : List (Option Ent) := [some (.aload_n 0, 1, 0, 0, 0), some (.getfield 57, 4, 707, 416, 1), none, none, some (.invokevirtual 206, 7, 157, 668, 0), none, none, some (.istore_n 1, 8, 0, 0, 0), some (.aload_n 0, 9, 0, 0, 0), some (.getfield 57, 12, 707, 416, 1), none, none, some (.invokevirtual 207, 15, 47, 397, 0), none, none, some (.iload_n 1, 16, 0, 0, 0), some (.ireturn, 17, 0, 0, 0)]
/-- NeedleTelegraphModel.forget -/
abbrev m_161 : Mth := (yX9_forget, cX9_forget, 2, (some .int), 1, false, 8)
def c_161 : List (Option Ent) := [some (.aload_n 0, 1, 0, 0, 0), some (.getfield 132, 4, 821, 796, 0), none, none, some (.istore_n 1, 5, 0, 0, 0), some (.aload_n 0, 6, 0, 0, 0), some (.iconst 0, 7, 0, 0, 0), some (.putfield 132, 10, 821, 796, 0), none, none, some (.iload_n 1, 11, 0, 0, 0), some (.ireturn, 12, 0, 0, 0)]
/-- NeedleTelegraph$Seen.isSo -/
abbrev m_162 : Mth := (yX6_isSo, cX6_isSo, 5, (some .boolean), 4, false, 5)
def c_162 : List (Option Ent) := [some (.iconst 0, 1, 0, 0, 0), some (.istore 4, 3, 0, 0, 0), none, some (.iload 4, 5, 0, 0, 0), none, some (.aload_n 0, 6, 0, 0, 0), some (.getfield 21, 9, 503, 207, 0), none, none, some (.if_icmp .ge 47, 12, 56, 0, 0), none, none, some (.aload_n 1, 13, 0, 0, 0), some (.iload_n 2, 14, 0, 0, 0), some (.iload_n 3, 15, 0, 0, 0), some (.aload_n 0, 16, 0, 0, 0), some (.getfield 9, 19, 500, 204, 1), none, none, some (.iload 4, 21, 0, 0, 0), none, some (.invokestatic 29, 24, 40, 688, 1), none, none, some (.aload_n 0, 25, 0, 0, 0), some (.getfield 15, 28, 501, 205, 1), none, none, some (.iload 4, 30, 0, 0, 0), none, some (.invokestatic 29, 33, 40, 688, 1), none, none, some (.invokevirtual 33, 36, 125, 689, 0), none, none, some (.aload_n 0, 37, 0, 0, 0), some (.getfield 18, 40, 502, 206, 1), none, none, some (.iload 4, 42, 0, 0, 0), none, some (.invokestatic 29, 45, 40, 688, 1), none, none, some (.if_icmp .eq 5, 48, 50, 0, 0), none, none, some (.iconst 0, 49, 0, 0, 0), some (.ireturn, 50, 0, 0, 0), some (.iinc 4 1, 53, 0, 0, 1), none, none, some (.goto (-50), 56, 3, 0, 0), none, none, some (.iconst 1, 57, 0, 0, 1), some (.ireturn, 58, 0, 0, 0)]
/-- NeedleTelegraph.kindsThatDo -/
abbrev m_163 : Mth := (yX8_kindsThatDo, cX8_kindsThatDo, 4, (some .int), 2, false, 7)
def c_163 : List (Option Ent) := [some (.iconst 0, 1, 0, 0, 0), some (.istore_n 2, 2, 0, 0, 0), some (.iconst 0, 3, 0, 0, 0), some (.istore_n 3, 4, 0, 0, 0), some (.iload_n 3, 5, 0, 0, 0), some (.iconst 5, 6, 0, 0, 5), some (.if_icmp .ge 31, 9, 37, 0, 0), none, none, some (.aload_n 0, 10, 0, 0, 0), some (.getfield 57, 13, 707, 416, 1), none, none, some (.aload_n 0, 14, 0, 0, 0), some (.getfield 28, 17, 702, 411, 1), none, none, some (.iload_n 1, 18, 0, 0, 0), some (.iload_n 3, 19, 0, 0, 0), some (.invokevirtual 211, 22, 162, 684, 0), none, none, some (.ifCond .eq 9, 25, 31, 0, 0), none, none, some (.iload_n 2, 26, 0, 0, 0), some (.iconst 1, 27, 0, 0, 1), some (.iload_n 3, 28, 0, 0, 0), some (.ishl, 29, 0, 0, 0), some (.ior, 30, 0, 0, 0), some (.istore_n 2, 31, 0, 0, 0), some (.iinc 3 1, 34, 0, 0, 1), none, none, some (.goto (-30), 37, 4, 0, 0), none, none, some (.iload_n 2, 38, 0, 0, 0), some (.ireturn, 39, 0, 0, 0)]
/-- NeedleTelegraph.kinds -/
abbrev m_164 : Mth := (yX8_kinds, cX8_kinds, 2, (some .int), 2, false, 7)
def c_164 : List (Option Ent) := [some (.aload_n 0, 1, 0, 0, 0), some (.getfield 28, 4, 702, 411, 1), none, none, some (.iload_n 1, 5, 0, 0, 0), some (.invokevirtual 95, 8, 29, 461, 0), none, none, some (.ifCond .eq 11, 11, 19, 0, 0), none, none, some (.aload_n 0, 12, 0, 0, 0), some (.iload_n 1, 13, 0, 0, 0), some (.invokevirtual 208, 16, 163, 680, 0), none, none, some (.goto 4, 19, 20, 0, 0), none, none, some (.iconst (-1), 20, 0, 0, (-1)), some (.ireturn, 21, 0, 0, 0)]
/-- NeedleTelegraphModel.isSo -/
abbrev m_165 : Mth := (yX9_isSo, cX9_isSo, 5, (some .boolean), 3, false, 8)
def c_165 : List (Option Ent) := [some (.iconst 1, 1, 0, 0, 1), some (.istore_n 3, 2, 0, 0, 0), some (.iconst 0, 3, 0, 0, 0), some (.istore 4, 5, 0, 0, 0), none, some (.iload 4, 7, 0, 0, 0), none, some (.aload_n 0, 8, 0, 0, 0), some (.getfield 132, 11, 821, 796, 0), none, none, some (.if_icmp .ge 59, 14, 70, 0, 0), none, none, some (.iload_n 3, 15, 0, 0, 0), some (.ifCond .eq 47, 18, 62, 0, 0), none, none, some (.aload_n 0, 19, 0, 0, 0), some (.aload_n 0, 20, 0, 0, 0), some (.getfield 49, 23, 822, 797, 1), none, none, some (.iconst 3, 24, 0, 0, 3), some (.iload 4, 26, 0, 0, 0), none, some (.imul, 27, 0, 0, 0), some (.iaload, 28, 0, 0, 0), some (.aload_n 0, 29, 0, 0, 0), some (.getfield 49, 32, 822, 797, 1), none, none, some (.iconst 3, 33, 0, 0, 3), some (.iload 4, 35, 0, 0, 0), none, some (.imul, 36, 0, 0, 0), some (.iconst 1, 37, 0, 0, 1), some (.iadd, 38, 0, 0, 0), some (.iaload, 39, 0, 0, 0), some (.iload_n 1, 40, 0, 0, 0), some (.iload_n 2, 41, 0, 0, 0), some (.invokevirtual 178, 44, 130, 984, 0), none, none, some (.aload_n 0, 45, 0, 0, 0), some (.getfield 49, 48, 822, 797, 1), none, none, some (.iconst 3, 49, 0, 0, 3), some (.iload 4, 51, 0, 0, 0), none, some (.imul, 52, 0, 0, 0), some (.iconst 2, 53, 0, 0, 2), some (.iadd, 54, 0, 0, 0), some (.iaload, 55, 0, 0, 0), some (.if_icmp .ne 7, 58, 62, 0, 0), none, none, some (.iconst 1, 59, 0, 0, 1), some (.goto 4, 62, 63, 0, 0), none, none, some (.iconst 0, 63, 0, 0, 0), some (.istore_n 3, 64, 0, 0, 0), some (.iinc 4 1, 67, 0, 0, 1), none, none, some (.goto (-62), 70, 5, 0, 0), none, none, some (.iload_n 3, 71, 0, 0, 0), some (.ireturn, 72, 0, 0, 0)]
/-- NeedleTelegraphModel.kinds -/
abbrev m_166 : Mth := (yX9_kinds, cX9_kinds, 4, (some .int), 2, false, 8)
def c_166 : List (Option Ent) := [some (.aload_n 0, 1, 0, 0, 0), some (.iload_n 1, 2, 0, 0, 0), some (.invokevirtual 139, 5, 78, 902, 0), none, none, some (.ifCond .ne 5, 8, 10, 0, 0), none, none, some (.iconst (-1), 9, 0, 0, (-1)), some (.ireturn, 10, 0, 0, 0), some (.iconst 0, 11, 0, 0, 0), some (.istore_n 2, 12, 0, 0, 0), some (.iconst 0, 13, 0, 0, 0), some (.istore_n 3, 14, 0, 0, 0), some (.iload_n 3, 15, 0, 0, 0), some (.iconst 4, 16, 0, 0, 4), some (.if_icmp .gt 28, 19, 44, 0, 0), none, none, some (.iload_n 2, 20, 0, 0, 0), some (.aload_n 0, 21, 0, 0, 0), some (.iload_n 1, 22, 0, 0, 0), some (.iload_n 3, 23, 0, 0, 0), some (.invokevirtual 201, 26, 165, 1042, 0), none, none, some (.ifCond .eq 9, 29, 35, 0, 0), none, none, some (.iconst 1, 30, 0, 0, 1), some (.iload_n 3, 31, 0, 0, 0), some (.ishl, 32, 0, 0, 0), some (.goto 4, 35, 36, 0, 0), none, none, some (.iconst 0, 36, 0, 0, 0), some (.ior, 37, 0, 0, 0), some (.istore_n 2, 38, 0, 0, 0), some (.iinc 3 1, 41, 0, 0, 1), none, none, some (.goto (-27), 44, 14, 0, 0), none, none, some (.iload_n 2, 45, 0, 0, 0), some (.ireturn, 46, 0, 0, 0)]
/-- NeedleTelegraph.lies -/
abbrev m_167 : Mth := (yX8_lies, cX8_lies, 4, (some .int), 1, false, 7)
def c_167 : List (Option Ent) := [some (.aload_n 0, 1, 0, 0, 0), some (.getfield 57, 4, 707, 416, 1), none, none, some (.aload_n 0, 5, 0, 0, 0), some (.getfield 28, 8, 702, 411, 1), none, none, some (.iconst (-1), 9, 0, 0, (-1)), some (.iconst 0, 10, 0, 0, 0), some (.invokevirtual 211, 13, 162, 684, 0), none, none, some (.ifCond .eq 9, 16, 22, 0, 0), none, none, some (.sipush 512, 19, 0, 0, 512), none, none, some (.goto 4, 22, 23, 0, 0), none, none, some (.iconst 0, 23, 0, 0, 0), some (.istore_n 1, 24, 0, 0, 0), some (.iconst 0, 25, 0, 0, 0), some (.istore_n 2, 26, 0, 0, 0), some (.iload_n 2, 27, 0, 0, 0), some (.aload_n 0, 28, 0, 0, 0), some (.getfield 28, 31, 702, 411, 1), none, none, some (.invokevirtual 92, 34, 72, 453, 0), none, none, some (.if_icmp .ge 38, 37, 72, 0, 0), none, none, some (.aload_n 0, 38, 0, 0, 0), some (.iload_n 2, 39, 0, 0, 0), some (.invokevirtual 208, 42, 163, 680, 0), none, none, some (.iconst 1, 43, 0, 0, 1), some (.aload_n 0, 44, 0, 0, 0), some (.getfield 28, 47, 702, 411, 1), none, none, some (.iload_n 2, 48, 0, 0, 0), some (.invokevirtual 98, 51, 41, 462, 0), none, none, some (.ishl, 52, 0, 0, 0), some (.iconst (-1), 53, 0, 0, (-1)), some (.ixor, 54, 0, 0, 0), some (.iand, 55, 0, 0, 0), some (.istore_n 3, 56, 0, 0, 0), some (.iload_n 3, 57, 0, 0, 0), some (.ifCond .eq 9, 60, 66, 0, 0), none, none, some (.iload_n 1, 61, 0, 0, 0), some (.iconst 1, 62, 0, 0, 1), some (.iload_n 2, 63, 0, 0, 0), some (.ishl, 64, 0, 0, 0), some (.ior, 65, 0, 0, 0), some (.istore_n 1, 66, 0, 0, 0), some (.iinc 2 1, 69, 0, 0, 1), none, none, some (.goto (-43), 72, 26, 0, 0), none, none, some (.iload_n 1, 73, 0, 0, 0), some (.ireturn, 74, 0, 0, 0)]
/-- NeedleTelegraphModel.lies -/
abbrev m_168 : Mth := (yX9_lies, cX9_lies, 4, (some .int), 1, false, 8)
def c_168 : List (Option Ent) := [some (.aload_n 0, 1, 0, 0, 0), some (.iconst (-1), 2, 0, 0, (-1)), some (.iconst 0, 3, 0, 0, 0), some (.invokevirtual 201, 6, 165, 1042, 0), none, none, some (.ifCond .eq 9, 9, 15, 0, 0), none, none, some (.sipush 512, 12, 0, 0, 512), none, none, some (.goto 4, 15, 16, 0, 0), none, none, some (.iconst 0, 16, 0, 0, 0), some (.istore_n 1, 17, 0, 0, 0), some (.iconst 0, 18, 0, 0, 0), some (.istore_n 2, 19, 0, 0, 0), some (.iload_n 2, 20, 0, 0, 0), some (.aload_n 0, 21, 0, 0, 0), some (.getfield 119, 24, 812, 787, 0), none, none, some (.if_icmp .ge 51, 27, 75, 0, 0), none, none, some (.iconst 0, 28, 0, 0, 0), some (.istore_n 3, 29, 0, 0, 0), some (.iload_n 3, 30, 0, 0, 0), some (.iconst 4, 31, 0, 0, 4), some (.if_icmp .gt 38, 34, 69, 0, 0), none, none, some (.iload_n 1, 35, 0, 0, 0), some (.iload_n 3, 36, 0, 0, 0), some (.aload_n 0, 37, 0, 0, 0), some (.getfield 31, 40, 813, 788, 1), none, none, some (.iload_n 2, 41, 0, 0, 0), some (.iaload, 42, 0, 0, 0), some (.if_icmp .eq 18, 45, 60, 0, 0), none, none, some (.aload_n 0, 46, 0, 0, 0), some (.iload_n 2, 47, 0, 0, 0), some (.iload_n 3, 48, 0, 0, 0), some (.invokevirtual 201, 51, 165, 1042, 0), none, none, some (.ifCond .eq 9, 54, 60, 0, 0), none, none, some (.iconst 1, 55, 0, 0, 1), some (.iload_n 2, 56, 0, 0, 0), some (.ishl, 57, 0, 0, 0), some (.goto 4, 60, 61, 0, 0), none, none, some (.iconst 0, 61, 0, 0, 0), some (.ior, 62, 0, 0, 0), some (.istore_n 1, 63, 0, 0, 0), some (.iinc 3 1, 66, 0, 0, 1), none, none, some (.goto (-37), 69, 29, 0, 0), none, none, some (.iinc 2 1, 72, 0, 0, 1), none, none, some (.goto (-53), 75, 19, 0, 0), none, none, some (.iload_n 1, 76, 0, 0, 0), some (.ireturn, 77, 0, 0, 0)]
/-- NeedleTelegraph$Rows.withoutFirst -/
abbrev m_169 : Mth := (yX5_withoutFirst, cX5_withoutFirst, 2, (some .int), 1, true, 60)
def c_169 : List (Option Ent) := [some (.iload_n 0, 1, 0, 0, 0), some (.invokestatic 14, 4, 86, 495, 0), none, none, some (.istore_n 1, 5, 0, 0, 0), some (.iload_n 1, 6, 0, 0, 0), some (.ifCond .ne 7, 9, 13, 0, 0), none, none, some (.iconst 0, 10, 0, 0, 0), some (.goto 18, 13, 28, 0, 0), none, none, some (.iload_n 0, 14, 0, 0, 0), some (.iload_n 0, 15, 0, 0, 0), some (.iload_n 1, 16, 0, 0, 0), some (.iconst 1, 17, 0, 0, 1), some (.isub, 18, 0, 0, 0), some (.invokestatic 20, 21, 87, 498, 0), none, none, some (.iconst 2, 22, 0, 0, 2), some (.iload_n 1, 23, 0, 0, 0), some (.iconst 1, 24, 0, 0, 1), some (.isub, 25, 0, 0, 0), some (.imul, 26, 0, 0, 0), some (.ishl, 27, 0, 0, 0), some (.isub, 28, 0, 0, 0), some (.ireturn, 29, 0, 0, 0)]
/-- NeedleTelegraph.tenthsThatCome -/
abbrev m_170 : Mth := (yX8_tenthsThatCome, cX8_tenthsThatCome, 10, (some .long), 6, false, 7)
def c_170 : List (Option Ent) := [some (.iload 5, 2, 0, 0, 0), none, some (.bipush 9, 4, 0, 0, 9), none, some (.if_icmp .lt 5, 7, 9, 0, 0), none, none, some (.lconst 0, 8, 0, 0, 0), some (.lreturn, 9, 0, 0, 0), some (.aload_n 0, 10, 0, 0, 0), some (.getfield 28, 13, 702, 411, 1), none, none, some (.iload_n 1, 14, 0, 0, 0), some (.invokevirtual 98, 17, 41, 462, 0), none, none, some (.istore 6, 19, 0, 0, 0), none, some (.iload 6, 21, 0, 0, 0), none, some (.iload_n 2, 22, 0, 0, 0), some (.invokestatic 145, 25, 92, 501, 0), none, none, some (.istore 7, 27, 0, 0, 0), none, some (.iload 6, 29, 0, 0, 0), none, some (.iload_n 2, 30, 0, 0, 0), some (.invokestatic 246, 33, 169, 702, 0), none, none, some (.invokestatic 145, 36, 92, 501, 0), none, none, some (.istore 8, 38, 0, 0, 0), none, some (.aload_n 0, 39, 0, 0, 0), some (.getfield 28, 42, 702, 411, 1), none, none, some (.iload_n 1, 43, 0, 0, 0), some (.invokevirtual 249, 46, 101, 705, 0), none, none, some (.ifCond .eq 33, 49, 79, 0, 0), none, none, some (.iload 7, 51, 0, 0, 0), none, some (.iload 4, 53, 0, 0, 0), none, some (.if_icmp .ne 10, 56, 63, 0, 0), none, none, some (.bipush 10, 58, 0, 0, 10), none, some (.iload_n 3, 59, 0, 0, 0), some (.isub, 60, 0, 0, 0), some (.goto 4, 63, 64, 0, 0), none, none, some (.iconst 0, 64, 0, 0, 0), some (.iload 8, 66, 0, 0, 0), none, some (.iload 4, 68, 0, 0, 0), none, some (.if_icmp .ne 7, 71, 75, 0, 0), none, none, some (.iload_n 3, 72, 0, 0, 0), some (.goto 4, 75, 76, 0, 0), none, none, some (.iconst 0, 76, 0, 0, 0), some (.iadd, 77, 0, 0, 0), some (.i2l, 78, 0, 0, 0), some (.lreturn, 79, 0, 0, 0), some (.aload_n 0, 80, 0, 0, 0), some (.getfield 28, 83, 702, 411, 1), none, none, some (.iload_n 1, 84, 0, 0, 0), some (.invokevirtual 105, 87, 43, 464, 0), none, none, some (.istore 9, 89, 0, 0, 0), none, some (.bipush 10, 91, 0, 0, 10), none, some (.iload_n 3, 92, 0, 0, 0), some (.isub, 93, 0, 0, 0), some (.i2l, 94, 0, 0, 0), some (.aload_n 0, 95, 0, 0, 0), some (.iload 9, 97, 0, 0, 0), none, some (.iload 7, 99, 0, 0, 0), none, some (.iload_n 3, 100, 0, 0, 0), some (.iload 4, 102, 0, 0, 0), none, some (.iload 5, 104, 0, 0, 0), none, some (.iconst 1, 105, 0, 0, 1), some (.iadd, 106, 0, 0, 0), some (.invokevirtual 215, 109, 170, 698, 0), none, none, some (.lmul, 110, 0, 0, 0), some (.iload_n 3, 111, 0, 0, 0), some (.i2l, 112, 0, 0, 0), some (.aload_n 0, 113, 0, 0, 0), some (.iload 9, 115, 0, 0, 0), none, some (.iload 8, 117, 0, 0, 0), none, some (.iload_n 3, 118, 0, 0, 0), some (.iload 4, 120, 0, 0, 0), none, some (.iload 5, 122, 0, 0, 0), none, some (.iconst 1, 123, 0, 0, 1), some (.iadd, 124, 0, 0, 0), some (.invokevirtual 215, 127, 170, 698, 0), none, none, some (.lmul, 128, 0, 0, 0), some (.ladd, 129, 0, 0, 0), some (.lreturn, 130, 0, 0, 0)]
/-- NeedleTelegraph$Valley.chairsToSea -/
abbrev m_171 : Mth := (yX7_chairsToSea, cX7_chairsToSea, 2, (some .int), 2, false, 6)
def c_171 : List (Option Ent) := [some (.aload_n 0, 1, 0, 0, 0), some (.iload_n 1, 2, 0, 0, 0), some (.invokevirtual 67, 5, 127, 602, 0), none, none, some (.invokestatic 74, 8, 143, 710, 0), none, none, some (.ireturn, 9, 0, 0, 0)]
/-- NeedleTelegraph.greatestDivisor -/
abbrev m_172 : Mth := (yX8_greatestDivisor, cX8_greatestDivisor, 11, (some .long), 2, true, 7)
def c_172 : List (Option Ent) := [some (.lload_n 0, 1, 0, 0, 0), some (.lstore 4, 3, 0, 0, 0), none, some (.lload_n 2, 4, 0, 0, 0), some (.lstore 6, 6, 0, 0, 0), none, some (.iconst 0, 7, 0, 0, 0), some (.istore 8, 9, 0, 0, 0), none, some (.iload 8, 11, 0, 0, 0), none, some (.bipush 100, 13, 0, 0, 100), none, some (.if_icmp .ge 31, 16, 44, 0, 0), none, none, some (.lload 6, 18, 0, 0, 0), none, some (.lconst 0, 19, 0, 0, 0), some (.lcmp, 20, 0, 0, 0), some (.ifCond .eq 24, 23, 44, 0, 0), none, none, some (.lload 4, 25, 0, 0, 0), none, some (.lload 6, 27, 0, 0, 0), none, some (.lrem, 28, 0, 0, 0), some (.lstore 9, 30, 0, 0, 0), none, some (.lload 6, 32, 0, 0, 0), none, some (.lstore 4, 34, 0, 0, 0), none, some (.lload 9, 36, 0, 0, 0), none, some (.lstore 6, 38, 0, 0, 0), none, some (.iinc 8 1, 41, 0, 0, 1), none, none, some (.goto (-32), 44, 9, 0, 0), none, none, some (.lload 4, 46, 0, 0, 0), none, some (.lreturn, 47, 0, 0, 0)]
/-- NeedleTelegraph.slips -/
abbrev m_173 : Mth := (yX8_slips, cX8_slips, 11, (some .int), 5, false, 7)
def c_173 : List (Option Ent) := [some (.aload_n 0, 1, 0, 0, 0), some (.getfield 28, 4, 702, 411, 1), none, none, some (.iload_n 1, 5, 0, 0, 0), some (.invokevirtual 95, 8, 29, 461, 0), none, none, some (.ifCond .eq 30, 11, 38, 0, 0), none, none, some (.iload_n 2, 12, 0, 0, 0), some (.invokestatic 163, 15, 88, 558, 0), none, none, some (.ifCond .eq 23, 18, 38, 0, 0), none, none, some (.iload_n 3, 19, 0, 0, 0), some (.iconst 0, 20, 0, 0, 0), some (.bipush 10, 22, 0, 0, 10), none, some (.invokestatic 86, 25, 22, 439, 0), none, none, some (.ifCond .eq 13, 28, 38, 0, 0), none, none, some (.iload 4, 30, 0, 0, 0), none, some (.iconst 0, 31, 0, 0, 0), some (.iconst 1, 32, 0, 0, 1), some (.invokestatic 86, 35, 22, 439, 0), none, none, some (.ifCond .ne 5, 38, 40, 0, 0), none, none, some (.iconst (-1), 39, 0, 0, (-1)), some (.ireturn, 40, 0, 0, 0), some (.aload_n 0, 41, 0, 0, 0), some (.iload_n 1, 42, 0, 0, 0), some (.iload_n 2, 43, 0, 0, 0), some (.iload_n 3, 44, 0, 0, 0), some (.aload_n 0, 45, 0, 0, 0), some (.getfield 28, 48, 702, 411, 1), none, none, some (.iload_n 1, 49, 0, 0, 0), some (.iload_n 2, 50, 0, 0, 0), some (.invokevirtual 177, 53, 126, 588, 0), none, none, some (.iconst 0, 54, 0, 0, 0), some (.invokevirtual 215, 57, 170, 698, 0), none, none, some (.lstore 5, 59, 0, 0, 0), none, some (.lconst 1, 60, 0, 0, 1), some (.lstore 7, 62, 0, 0, 0), none, some (.iconst 0, 63, 0, 0, 0), some (.istore 9, 65, 0, 0, 0), none, some (.iload 9, 67, 0, 0, 0), none, some (.aload_n 0, 68, 0, 0, 0), some (.getfield 28, 71, 702, 411, 1), none, none, some (.iload_n 1, 72, 0, 0, 0), some (.invokevirtual 219, 75, 171, 706, 0), none, none, some (.if_icmp .ge 17, 78, 92, 0, 0), none, none, some (.lload 7, 80, 0, 0, 0), none, some (.ldc2_w 222, 83, 0, 711, 10), none, none, some (.lmul, 84, 0, 0, 0), some (.lstore 7, 86, 0, 0, 0), none, some (.iinc 9 1, 89, 0, 0, 1), none, none, some (.goto (-24), 92, 65, 0, 0), none, none, some (.lload 5, 94, 0, 0, 0), none, some (.lload 7, 96, 0, 0, 0), none, some (.invokestatic 224, 99, 172, 712, 0), none, none, some (.lstore 9, 101, 0, 0, 0), none, some (.lload 9, 103, 0, 0, 0), none, some (.lconst 1, 104, 0, 0, 1), some (.lcmp, 105, 0, 0, 0), some (.ifCond .ge 5, 108, 110, 0, 0), none, none, some (.iconst (-1), 109, 0, 0, (-1)), some (.ireturn, 110, 0, 0, 0), some (.iload 4, 112, 0, 0, 0), none, some (.ifCond .ne 8, 115, 120, 0, 0), none, none, some (.lload 5, 117, 0, 0, 0), none, some (.goto 5, 120, 122, 0, 0), none, none, some (.lload 7, 122, 0, 0, 0), none, some (.lload 9, 124, 0, 0, 0), none, some (.ldiv, 125, 0, 0, 0), some (.l2i, 126, 0, 0, 0), some (.ireturn, 127, 0, 0, 0)]
/-- NeedleTelegraphModel.withoutFirst -/
abbrev m_174 : Mth := (yX9_withoutFirst, cX9_withoutFirst, 1, (some .int), 1, true, 8)
def c_174 : List (Option Ent) := [some (.iload_n 0, 1, 0, 0, 0), some (.iload_n 0, 2, 0, 0, 0), some (.invokestatic 77, 5, 95, 932, 0), none, none, some (.ifCond .le 12, 8, 17, 0, 0), none, none, some (.iload_n 0, 9, 0, 0, 0), some (.invokestatic 77, 12, 95, 932, 0), none, none, some (.iconst 1, 13, 0, 0, 1), some (.isub, 14, 0, 0, 0), some (.goto 4, 17, 18, 0, 0), none, none, some (.iconst 0, 18, 0, 0, 0), some (.invokestatic 81, 21, 96, 935, 0), none, none, some (.irem, 22, 0, 0, 0), some (.ireturn, 23, 0, 0, 0)]
/-- NeedleTelegraphModel.slipped -/
abbrev m_175 : Mth := (yX9_slipped, cX9_slipped, 8, (some .int), 4, false, 8)
def c_175 : List (Option Ent) := [some (.iload_n 2, 1, 0, 0, 0), some (.istore 4, 3, 0, 0, 0), none, some (.iload_n 1, 4, 0, 0, 0), some (.istore 5, 6, 0, 0, 0), none, some (.iconst 1, 7, 0, 0, 1), some (.istore 6, 9, 0, 0, 0), none, some (.iconst 0, 10, 0, 0, 0), some (.istore 7, 12, 0, 0, 0), none, some (.iload 6, 14, 0, 0, 0), none, some (.ifCond .eq 68, 17, 82, 0, 0), none, none, some (.aload_n 0, 18, 0, 0, 0), some (.getfield 31, 21, 813, 788, 1), none, none, some (.iload 5, 23, 0, 0, 0), none, some (.iaload, 24, 0, 0, 0), some (.iload_n 3, 25, 0, 0, 0), some (.iload 7, 27, 0, 0, 0), none, some (.invokestatic 156, 30, 108, 954, 0), none, none, some (.ifCond .eq 11, 33, 41, 0, 0), none, none, some (.iload 4, 35, 0, 0, 0), none, some (.invokestatic 204, 38, 174, 1058, 0), none, none, some (.goto 5, 41, 43, 0, 0), none, none, some (.iload 4, 43, 0, 0, 0), none, some (.invokestatic 152, 46, 97, 929, 0), none, none, some (.istore 4, 48, 0, 0, 0), none, some (.aload_n 0, 49, 0, 0, 0), some (.getfield 37, 52, 815, 790, 1), none, none, some (.iload 5, 54, 0, 0, 0), none, some (.iaload, 55, 0, 0, 0), some (.iload 5, 57, 0, 0, 0), none, some (.if_icmp .eq 7, 60, 64, 0, 0), none, none, some (.iconst 1, 61, 0, 0, 1), some (.goto 4, 64, 65, 0, 0), none, none, some (.iconst 0, 65, 0, 0, 0), some (.istore 6, 67, 0, 0, 0), none, some (.aload_n 0, 68, 0, 0, 0), some (.getfield 37, 71, 815, 790, 1), none, none, some (.iload 5, 73, 0, 0, 0), none, some (.iaload, 74, 0, 0, 0), some (.istore 5, 76, 0, 0, 0), none, some (.iinc 7 1, 79, 0, 0, 1), none, none, some (.goto (-67), 82, 12, 0, 0), none, none, some (.iload 4, 84, 0, 0, 0), none, some (.ireturn, 85, 0, 0, 0)]
/-- NeedleTelegraphModel.common -/
abbrev m_176 : Mth := (yX9_common, cX9_common, 5, (some .int), 2, true, 8)
def c_176 : List (Option Ent) := [some (.iload_n 0, 1, 0, 0, 0), some (.istore_n 2, 2, 0, 0, 0), some (.iload_n 1, 3, 0, 0, 0), some (.istore_n 3, 4, 0, 0, 0), some (.iload_n 3, 5, 0, 0, 0), some (.ifCond .eq 16, 8, 21, 0, 0), none, none, some (.iload_n 2, 9, 0, 0, 0), some (.iload_n 3, 10, 0, 0, 0), some (.irem, 11, 0, 0, 0), some (.istore 4, 13, 0, 0, 0), none, some (.iload_n 3, 14, 0, 0, 0), some (.istore_n 2, 15, 0, 0, 0), some (.iload 4, 17, 0, 0, 0), none, some (.istore_n 3, 18, 0, 0, 0), some (.goto (-14), 21, 4, 0, 0), none, none, some (.iload_n 2, 22, 0, 0, 0), some (.ireturn, 23, 0, 0, 0)]
/-- NeedleTelegraphModel.slips -/
abbrev m_177 : Mth := (yX9_slips, cX9_slips, 11, (some .int), 5, false, 8)
def c_177 : List (Option Ent) := [some (.aload_n 0, 1, 0, 0, 0), some (.iload_n 1, 2, 0, 0, 0), some (.invokevirtual 139, 5, 78, 902, 0), none, none, some (.ifCond .eq 30, 8, 35, 0, 0), none, none, some (.iload_n 2, 9, 0, 0, 0), some (.invokestatic 149, 12, 94, 925, 0), none, none, some (.ifCond .eq 23, 15, 35, 0, 0), none, none, some (.iload_n 3, 16, 0, 0, 0), some (.iconst 0, 17, 0, 0, 0), some (.bipush 10, 19, 0, 0, 10), none, some (.invokestatic 73, 22, 59, 855, 0), none, none, some (.ifCond .eq 13, 25, 35, 0, 0), none, none, some (.iload 4, 27, 0, 0, 0), none, some (.iconst 0, 28, 0, 0, 0), some (.iconst 1, 29, 0, 0, 1), some (.invokestatic 73, 32, 59, 855, 0), none, none, some (.ifCond .ne 5, 35, 37, 0, 0), none, none, some (.iconst (-1), 36, 0, 0, (-1)), some (.ireturn, 37, 0, 0, 0), some (.iconst 1, 38, 0, 0, 1), some (.istore 5, 40, 0, 0, 0), none, some (.bipush 10, 42, 0, 0, 10), none, some (.istore 6, 44, 0, 0, 0), none, some (.iload_n 1, 45, 0, 0, 0), some (.istore 7, 47, 0, 0, 0), none, some (.aload_n 0, 48, 0, 0, 0), some (.getfield 37, 51, 815, 790, 1), none, none, some (.iload 7, 53, 0, 0, 0), none, some (.iaload, 54, 0, 0, 0), some (.iload 7, 56, 0, 0, 0), none, some (.if_icmp .eq 25, 59, 81, 0, 0), none, none, some (.iinc 5 1, 62, 0, 0, 1), none, none, some (.iload 6, 64, 0, 0, 0), none, some (.bipush 10, 66, 0, 0, 10), none, some (.imul, 67, 0, 0, 0), some (.istore 6, 69, 0, 0, 0), none, some (.aload_n 0, 70, 0, 0, 0), some (.getfield 37, 73, 815, 790, 1), none, none, some (.iload 7, 75, 0, 0, 0), none, some (.iaload, 76, 0, 0, 0), some (.istore 7, 78, 0, 0, 0), none, some (.goto (-31), 81, 47, 0, 0), none, none, some (.iconst 0, 82, 0, 0, 0), some (.istore 7, 84, 0, 0, 0), none, some (.iconst 0, 85, 0, 0, 0), some (.istore 8, 87, 0, 0, 0), none, some (.iload 8, 89, 0, 0, 0), none, some (.iconst 1, 90, 0, 0, 1), some (.iload 5, 92, 0, 0, 0), none, some (.ishl, 93, 0, 0, 0), some (.if_icmp .ge 79, 96, 172, 0, 0), none, none, some (.iconst 1, 97, 0, 0, 1), some (.istore 9, 99, 0, 0, 0), none, some (.iconst 0, 100, 0, 0, 0), some (.istore 10, 102, 0, 0, 0), none, some (.iload 10, 104, 0, 0, 0), none, some (.iload 5, 106, 0, 0, 0), none, some (.if_icmp .ge 32, 109, 138, 0, 0), none, none, some (.iload 9, 111, 0, 0, 0), none, some (.iload 8, 113, 0, 0, 0), none, some (.iload 10, 115, 0, 0, 0), none, some (.invokestatic 156, 118, 108, 954, 0), none, none, some (.ifCond .eq 7, 121, 125, 0, 0), none, none, some (.iload_n 3, 122, 0, 0, 0), some (.goto 7, 125, 129, 0, 0), none, none, some (.bipush 10, 127, 0, 0, 10), none, some (.iload_n 3, 128, 0, 0, 0), some (.isub, 129, 0, 0, 0), some (.imul, 130, 0, 0, 0), some (.istore 9, 132, 0, 0, 0), none, some (.iinc 10 1, 135, 0, 0, 1), none, none, some (.goto (-33), 138, 102, 0, 0), none, none, some (.iload 7, 140, 0, 0, 0), none, some (.aload_n 0, 141, 0, 0, 0), some (.iload_n 1, 142, 0, 0, 0), some (.iload_n 2, 143, 0, 0, 0), some (.iload 8, 145, 0, 0, 0), none, some (.invokevirtual 207, 148, 175, 1054, 0), none, none, some (.aload_n 0, 149, 0, 0, 0), some (.iload_n 1, 150, 0, 0, 0), some (.iload_n 2, 151, 0, 0, 0), some (.invokevirtual 182, 154, 131, 980, 0), none, none, some (.if_icmp .ne 8, 157, 162, 0, 0), none, none, some (.iload 9, 159, 0, 0, 0), none, some (.goto 4, 162, 163, 0, 0), none, none, some (.iconst 0, 163, 0, 0, 0), some (.iadd, 164, 0, 0, 0), some (.istore 7, 166, 0, 0, 0), none, some (.iinc 8 1, 169, 0, 0, 1), none, none, some (.goto (-82), 172, 87, 0, 0), none, none, some (.iload 7, 174, 0, 0, 0), none, some (.iload 6, 176, 0, 0, 0), none, some (.invokestatic 211, 179, 176, 1061, 0), none, none, some (.istore 8, 181, 0, 0, 0), none, some (.iload 4, 183, 0, 0, 0), none, some (.ifCond .ne 11, 186, 194, 0, 0), none, none, some (.iload 7, 188, 0, 0, 0), none, some (.iload 8, 190, 0, 0, 0), none, some (.idiv, 191, 0, 0, 0), some (.goto 8, 194, 199, 0, 0), none, none, some (.iload 6, 196, 0, 0, 0), none, some (.iload 8, 198, 0, 0, 0), none, some (.idiv, 199, 0, 0, 0), some (.ireturn, 200, 0, 0, 0)]
/-- NeedleTelegraph.draw -/
abbrev m_178 : Mth := (yX8_draw, cX8_draw, 4, (some .int), 2, true, 7)
def c_178 : List (Option Ent) := [some (.ldc2_w 252, 3, 0, 722, 7919), none, none, some (.iload_n 0, 4, 0, 0, 0), some (.i2l, 5, 0, 0, 0), some (.lmul, 6, 0, 0, 0), some (.ldc2_w 254, 9, 0, 723, 6151), none, none, some (.iload_n 1, 10, 0, 0, 0), some (.i2l, 11, 0, 0, 0), some (.lmul, 12, 0, 0, 0), some (.ladd, 13, 0, 0, 0), some (.lconst 1, 14, 0, 0, 1), some (.ladd, 15, 0, 0, 0), some (.lstore_n 2, 16, 0, 0, 0), some (.lload_n 2, 17, 0, 0, 0), some (.lload_n 2, 18, 0, 0, 0), some (.lmul, 19, 0, 0, 0), some (.ldc2_w 256, 22, 0, 724, 65521), none, none, some (.lrem, 23, 0, 0, 0), some (.l2i, 24, 0, 0, 0), some (.ireturn, 25, 0, 0, 0)]
/-- NeedleTelegraph.happen -/
abbrev m_179 : Mth := (yX8_happen, cX8_happen, 6, none, 2, false, 7)
def c_179 : List (Option Ent) := [some (.aload_n 0, 1, 0, 0, 0), some (.getfield 28, 4, 702, 411, 1), none, none, some (.invokevirtual 92, 7, 72, 453, 0), none, none, some (.istore_n 2, 8, 0, 0, 0), some (.iload_n 2, 9, 0, 0, 0), some (.iconst 1, 10, 0, 0, 1), some (.if_icmp .ge 4, 13, 14, 0, 0), none, none, some (.return_, 14, 0, 0, 0), some (.iload_n 1, 15, 0, 0, 0), some (.bipush 8, 17, 0, 0, 8), none, some (.idiv, 18, 0, 0, 0), some (.iload_n 2, 19, 0, 0, 0), some (.irem, 20, 0, 0, 0), some (.istore_n 3, 21, 0, 0, 0), some (.iload_n 1, 22, 0, 0, 0), some (.bipush 8, 24, 0, 0, 8), none, some (.irem, 25, 0, 0, 0), some (.ifCond .ne 11, 28, 36, 0, 0), none, none, some (.aload_n 0, 29, 0, 0, 0), some (.getfield 39, 32, 704, 413, 1), none, none, some (.iload_n 3, 33, 0, 0, 0), some (.invokevirtual 160, 36, 36, 553, 0), none, none, some (.iload_n 1, 37, 0, 0, 0), some (.bipush 8, 39, 0, 0, 8), none, some (.irem, 40, 0, 0, 0), some (.iconst 1, 41, 0, 0, 1), some (.if_icmp .ne 48, 44, 89, 0, 0), none, none, some (.iconst 1, 45, 0, 0, 1), some (.iload_n 1, 46, 0, 0, 0), some (.sipush 128, 49, 0, 0, 128), none, none, some (.idiv, 50, 0, 0, 0), some (.iconst 3, 51, 0, 0, 3), some (.irem, 52, 0, 0, 0), some (.iadd, 53, 0, 0, 0), some (.istore 4, 55, 0, 0, 0), none, some (.iconst 1, 56, 0, 0, 1), some (.iload_n 1, 57, 0, 0, 0), some (.sipush 512, 60, 0, 0, 512), none, none, some (.idiv, 61, 0, 0, 0), some (.iconst 3, 62, 0, 0, 3), some (.irem, 63, 0, 0, 0), some (.iadd, 64, 0, 0, 0), some (.istore 5, 66, 0, 0, 0), none, some (.aload_n 0, 67, 0, 0, 0), some (.getfield 39, 70, 704, 413, 1), none, none, some (.iload_n 3, 71, 0, 0, 0), some (.aload_n 0, 72, 0, 0, 0), some (.getfield 39, 75, 704, 413, 1), none, none, some (.invokevirtual 167, 78, 116, 563, 0), none, none, some (.iload 4, 80, 0, 0, 0), none, some (.iconst 4, 81, 0, 0, 4), some (.imul, 82, 0, 0, 0), some (.iload 5, 84, 0, 0, 0), none, some (.iadd, 85, 0, 0, 0), some (.invokevirtual 170, 88, 32, 567, 0), none, none, some (.pop, 89, 0, 0, 0), some (.return_, 90, 0, 0, 0)]
/-- NeedleTelegraph$Moment.sumOfRowsOut -/
abbrev m_180 : Mth := (yX2_sumOfRowsOut, cX2_sumOfRowsOut, 3, (some .int), 1, false, 2)
def c_180 : List (Option Ent) := [some (.iconst 0, 1, 0, 0, 0), some (.istore_n 1, 2, 0, 0, 0), some (.iconst 0, 3, 0, 0, 0), some (.istore_n 2, 4, 0, 0, 0), some (.iload_n 2, 5, 0, 0, 0), some (.aload_n 0, 6, 0, 0, 0), some (.getfield 22, 9, 202, 146, 0), none, none, some (.if_icmp .ge 36, 12, 45, 0, 0), none, none, some (.iload_n 1, 13, 0, 0, 0), some (.aload_n 0, 14, 0, 0, 0), some (.iload_n 2, 15, 0, 0, 0), some (.invokevirtual 32, 18, 30, 341, 0), none, none, some (.getfield 62, 21, 101, 120, 0), none, none, some (.iconst 2, 22, 0, 0, 2), some (.if_icmp .ne 14, 25, 36, 0, 0), none, none, some (.aload_n 0, 26, 0, 0, 0), some (.iload_n 2, 27, 0, 0, 0), some (.invokevirtual 32, 30, 30, 341, 0), none, none, some (.getfield 72, 33, 103, 126, 0), none, none, some (.goto 4, 36, 37, 0, 0), none, none, some (.iconst 0, 37, 0, 0, 0), some (.iadd, 38, 0, 0, 0), some (.istore_n 1, 39, 0, 0, 0), some (.iinc 2 1, 42, 0, 0, 1), none, none, some (.goto (-38), 45, 4, 0, 0), none, none, some (.iload_n 1, 46, 0, 0, 0), some (.ireturn, 47, 0, 0, 0)]
/-- NeedleTelegraph.evening -/
abbrev m_181 : Mth := (yX8_evening, cX8_evening, 5, (some .int), 4, false, 7)
def c_181 : List (Option Ent) := [some (.iload_n 1, 1, 0, 0, 0), some (.iconst 0, 2, 0, 0, 0), some (.sipush 9999, 5, 0, 0, 9999), none, none, some (.invokestatic 86, 8, 22, 439, 0), none, none, some (.ifCond .eq 22, 11, 30, 0, 0), none, none, some (.iload_n 2, 12, 0, 0, 0), some (.iconst 1, 13, 0, 0, 1), some (.bipush 60, 15, 0, 0, 60), none, some (.invokestatic 86, 18, 22, 439, 0), none, none, some (.ifCond .eq 12, 21, 30, 0, 0), none, none, some (.iload_n 3, 22, 0, 0, 0), some (.iconst 0, 23, 0, 0, 0), some (.iconst 1, 24, 0, 0, 1), some (.invokestatic 86, 27, 22, 439, 0), none, none, some (.ifCond .ne 5, 30, 32, 0, 0), none, none, some (.iconst (-1), 31, 0, 0, (-1)), some (.ireturn, 32, 0, 0, 0), some (.aload_n 0, 33, 0, 0, 0), some (.getfield 39, 36, 704, 413, 1), none, none, some (.aload_n 0, 37, 0, 0, 0), some (.getfield 35, 40, 703, 412, 1), none, none, some (.invokevirtual 195, 43, 46, 389, 0), none, none, some (.iconst 0, 44, 0, 0, 0), some (.istore 4, 46, 0, 0, 0), none, some (.iload 4, 48, 0, 0, 0), none, some (.iload_n 2, 49, 0, 0, 0), some (.if_icmp .ge 30, 52, 79, 0, 0), none, none, some (.aload_n 0, 53, 0, 0, 0), some (.iload_n 1, 54, 0, 0, 0), some (.iload 4, 56, 0, 0, 0), none, some (.invokestatic 228, 59, 178, 719, 0), none, none, some (.invokevirtual 231, 62, 179, 725, 0), none, none, some (.aload_n 0, 63, 0, 0, 0), some (.getfield 39, 66, 704, 413, 1), none, none, some (.aload_n 0, 67, 0, 0, 0), some (.getfield 28, 70, 702, 411, 1), none, none, some (.invokevirtual 153, 73, 104, 524, 0), none, none, some (.iinc 4 1, 76, 0, 0, 1), none, none, some (.goto (-30), 79, 46, 0, 0), none, none, some (.iload_n 3, 80, 0, 0, 0), some (.ifCond .ne 14, 83, 94, 0, 0), none, none, some (.aload_n 0, 84, 0, 0, 0), some (.getfield 39, 87, 704, 413, 1), none, none, some (.iconst 2, 88, 0, 0, 2), some (.invokevirtual 157, 91, 105, 545, 0), none, none, some (.goto 14, 94, 105, 0, 0), none, none, some (.aload_n 0, 95, 0, 0, 0), some (.getfield 39, 98, 704, 413, 1), none, none, some (.invokevirtual 234, 101, 180, 729, 0), none, none, some (.sipush 9973, 104, 0, 0, 9973), none, none, some (.irem, 105, 0, 0, 0), some (.ireturn, 106, 0, 0, 0)]
/-- NeedleTelegraphModel.evening -/
abbrev m_182 : Mth := (yX9_evening, cX9_evening, 9, (some .int), 4, false, 8)
def c_182 : List (Option Ent) := [some (.iload_n 1, 1, 0, 0, 0), some (.iconst 0, 2, 0, 0, 0), some (.sipush 9999, 5, 0, 0, 9999), none, none, some (.invokestatic 73, 8, 59, 855, 0), none, none, some (.ifCond .eq 22, 11, 30, 0, 0), none, none, some (.iload_n 2, 12, 0, 0, 0), some (.iconst 1, 13, 0, 0, 1), some (.bipush 60, 15, 0, 0, 60), none, some (.invokestatic 73, 18, 59, 855, 0), none, none, some (.ifCond .eq 12, 21, 30, 0, 0), none, none, some (.iload_n 3, 22, 0, 0, 0), some (.iconst 0, 23, 0, 0, 0), some (.iconst 1, 24, 0, 0, 1), some (.invokestatic 73, 27, 59, 855, 0), none, none, some (.ifCond .ne 5, 30, 32, 0, 0), none, none, some (.iconst (-1), 31, 0, 0, (-1)), some (.ireturn, 32, 0, 0, 0), some (.aload_n 0, 33, 0, 0, 0), some (.invokevirtual 185, 36, 137, 992, 0), none, none, some (.iconst 0, 37, 0, 0, 0), some (.istore 4, 39, 0, 0, 0), none, some (.iload 4, 41, 0, 0, 0), none, some (.iload_n 2, 42, 0, 0, 0), some (.if_icmp .ge 142, 45, 184, 0, 0), none, none, some (.ldc2_w 214, 48, 0, 1068, 7919), none, none, some (.iload_n 1, 49, 0, 0, 0), some (.i2l, 50, 0, 0, 0), some (.lmul, 51, 0, 0, 0), some (.ldc2_w 216, 54, 0, 1069, 6151), none, none, some (.iload 4, 56, 0, 0, 0), none, some (.i2l, 57, 0, 0, 0), some (.lmul, 58, 0, 0, 0), some (.ladd, 59, 0, 0, 0), some (.lconst 1, 60, 0, 0, 1), some (.ladd, 61, 0, 0, 0), some (.lstore 5, 63, 0, 0, 0), none, some (.lload 5, 65, 0, 0, 0), none, some (.lload 5, 67, 0, 0, 0), none, some (.lmul, 68, 0, 0, 0), some (.ldc2_w 218, 71, 0, 1070, 65521), none, none, some (.lrem, 72, 0, 0, 0), some (.l2i, 73, 0, 0, 0), some (.istore 7, 75, 0, 0, 0), none, some (.iload 7, 77, 0, 0, 0), none, some (.bipush 8, 79, 0, 0, 8), none, some (.idiv, 80, 0, 0, 0), some (.aload_n 0, 81, 0, 0, 0), some (.getfield 119, 84, 812, 787, 0), none, none, some (.irem, 85, 0, 0, 0), some (.istore 8, 87, 0, 0, 0), none, some (.aload_n 0, 88, 0, 0, 0), some (.getfield 43, 91, 817, 792, 1), none, none, some (.iconst 1, 92, 0, 0, 1), some (.dup2, 93, 0, 0, 0), some (.iaload, 94, 0, 0, 0), some (.iload 7, 96, 0, 0, 0), none, some (.bipush 8, 98, 0, 0, 8), none, some (.irem, 99, 0, 0, 0), some (.ifCond .ne 10, 102, 109, 0, 0), none, none, some (.iconst 1, 103, 0, 0, 1), some (.iload 8, 105, 0, 0, 0), none, some (.ishl, 106, 0, 0, 0), some (.goto 4, 109, 110, 0, 0), none, none, some (.iconst 0, 110, 0, 0, 0), some (.ixor, 111, 0, 0, 0), some (.iastore, 112, 0, 0, 0), some (.iload 7, 114, 0, 0, 0), none, some (.bipush 8, 116, 0, 0, 8), none, some (.irem, 117, 0, 0, 0), some (.iconst 1, 118, 0, 0, 1), some (.if_icmp .ne 52, 121, 170, 0, 0), none, none, some (.aload_n 0, 122, 0, 0, 0), some (.getfield 43, 125, 817, 792, 1), none, none, some (.iconst 2, 126, 0, 0, 2), some (.iaload, 127, 0, 0, 0), some (.bipush 6, 129, 0, 0, 6), none, some (.if_icmp .ge 41, 132, 170, 0, 0), none, none, some (.aload_n 0, 133, 0, 0, 0), some (.getfield 43, 136, 817, 792, 1), none, none, some (.iload 8, 138, 0, 0, 0), none, some (.aload_n 0, 139, 0, 0, 0), some (.getfield 43, 142, 817, 792, 1), none, none, some (.iconst 0, 143, 0, 0, 0), some (.iaload, 144, 0, 0, 0), some (.iconst 4, 145, 0, 0, 4), some (.iconst 1, 146, 0, 0, 1), some (.iload 7, 148, 0, 0, 0), none, some (.sipush 128, 151, 0, 0, 128), none, none, some (.idiv, 152, 0, 0, 0), some (.iconst 3, 153, 0, 0, 3), some (.irem, 154, 0, 0, 0), some (.iadd, 155, 0, 0, 0), some (.imul, 156, 0, 0, 0), some (.iconst 1, 157, 0, 0, 1), some (.iadd, 158, 0, 0, 0), some (.iload 7, 160, 0, 0, 0), none, some (.sipush 512, 163, 0, 0, 512), none, none, some (.idiv, 164, 0, 0, 0), some (.iconst 3, 165, 0, 0, 3), some (.irem, 166, 0, 0, 0), some (.iadd, 167, 0, 0, 0), some (.invokestatic 122, 170, 55, 772, 0), none, none, some (.aload_n 0, 171, 0, 0, 0), some (.aload_n 0, 172, 0, 0, 0), some (.getfield 43, 175, 817, 792, 1), none, none, some (.invokevirtual 170, 178, 110, 946, 0), none, none, some (.iinc 4 1, 181, 0, 0, 1), none, none, some (.goto (-142), 184, 39, 0, 0), none, none, some (.iconst 0, 185, 0, 0, 0), some (.istore 4, 187, 0, 0, 0), none, some (.iconst 0, 188, 0, 0, 0), some (.istore 5, 190, 0, 0, 0), none, some (.iload 5, 192, 0, 0, 0), none, some (.aload_n 0, 193, 0, 0, 0), some (.getfield 43, 196, 817, 792, 1), none, none, some (.iconst 2, 197, 0, 0, 2), some (.iaload, 198, 0, 0, 0), some (.if_icmp .ge 42, 201, 240, 0, 0), none, none, some (.iload 4, 203, 0, 0, 0), none, some (.aload_n 0, 204, 0, 0, 0), some (.getfield 43, 207, 817, 792, 1), none, none, some (.iload 5, 209, 0, 0, 0), none, some (.iconst 1, 210, 0, 0, 1), some (.invokestatic 135, 213, 79, 910, 0), none, none, some (.iconst 2, 214, 0, 0, 2), some (.if_icmp .ne 16, 217, 230, 0, 0), none, none, some (.aload_n 0, 218, 0, 0, 0), some (.getfield 43, 221, 817, 792, 1), none, none, some (.iload 5, 223, 0, 0, 0), none, some (.iconst 3, 224, 0, 0, 3), some (.invokestatic 135, 227, 79, 910, 0), none, none, some (.goto 4, 230, 231, 0, 0), none, none, some (.iconst 0, 231, 0, 0, 0), some (.iadd, 232, 0, 0, 0), some (.istore 4, 234, 0, 0, 0), none, some (.iinc 5 1, 237, 0, 0, 1), none, none, some (.goto (-47), 240, 190, 0, 0), none, none, some (.iload_n 3, 241, 0, 0, 0), some (.ifCond .ne 13, 244, 254, 0, 0), none, none, some (.aload_n 0, 245, 0, 0, 0), some (.getfield 43, 248, 817, 792, 1), none, none, some (.invokestatic 174, 251, 111, 957, 0), none, none, some (.goto 9, 254, 260, 0, 0), none, none, some (.iload 4, 256, 0, 0, 0), none, some (.sipush 9973, 259, 0, 0, 9973), none, none, some (.irem, 260, 0, 0, 0), some (.ireturn, 261, 0, 0, 0)]
/-- NeedleTelegraph.keep -/
abbrev m_183 : Mth := (yX8_keep, cX8_keep, 1, (some .int), 1, false, 7)
def c_183 : List (Option Ent) := [some (.aload_n 0, 1, 0, 0, 0), some (.getfield 51, 4, 706, 415, 1), none, none, some (.invokevirtual 176, 7, 122, 580, 0), none, none, some (.iconst 2, 8, 0, 0, 2), some (.if_icmp .lt 6, 11, 14, 0, 0), none, none, some (.bipush (-3), 13, 0, 0, (-3)), none, some (.ireturn, 14, 0, 0, 0), some (.aload_n 0, 15, 0, 0, 0), some (.getfield 51, 18, 706, 415, 1), none, none, some (.aload_n 0, 19, 0, 0, 0), some (.getfield 35, 22, 703, 412, 1), none, none, some (.invokevirtual 149, 25, 100, 515, 0), none, none, some (.aload_n 0, 26, 0, 0, 0), some (.getfield 51, 29, 706, 415, 1), none, none, some (.invokevirtual 176, 32, 122, 580, 0), none, none, some (.ireturn, 33, 0, 0, 0)]
/-- NeedleTelegraphModel.keep -/
abbrev m_184 : Mth := (yX9_keep, cX9_keep, 2, (some .int), 1, false, 8)
def c_184 : List (Option Ent) := [some (.aload_n 0, 1, 0, 0, 0), some (.getfield 129, 4, 823, 798, 0), none, none, some (.iconst 2, 5, 0, 0, 2), some (.if_icmp .ne 6, 8, 11, 0, 0), none, none, some (.bipush (-3), 10, 0, 0, (-3)), none, some (.ireturn, 11, 0, 0, 0), some (.iconst 0, 12, 0, 0, 0), some (.istore_n 1, 13, 0, 0, 0), some (.iload_n 1, 14, 0, 0, 0), some (.bipush 39, 16, 0, 0, 39), none, some (.if_icmp .ge 29, 19, 45, 0, 0), none, none, some (.aload_n 0, 20, 0, 0, 0), some (.getfield 52, 23, 824, 799, 1), none, none, some (.bipush 39, 25, 0, 0, 39), none, some (.aload_n 0, 26, 0, 0, 0), some (.getfield 129, 29, 823, 798, 0), none, none, some (.imul, 30, 0, 0, 0), some (.iload_n 1, 31, 0, 0, 0), some (.iadd, 32, 0, 0, 0), some (.aload_n 0, 33, 0, 0, 0), some (.getfield 40, 36, 816, 791, 1), none, none, some (.iload_n 1, 37, 0, 0, 0), some (.iaload, 38, 0, 0, 0), some (.iastore, 39, 0, 0, 0), some (.iinc 1 1, 42, 0, 0, 1), none, none, some (.goto (-29), 45, 13, 0, 0), none, none, some (.aload_n 0, 46, 0, 0, 0), some (.dup, 47, 0, 0, 0), some (.getfield 129, 50, 823, 798, 0), none, none, some (.iconst 1, 51, 0, 0, 1), some (.iadd, 52, 0, 0, 0), some (.putfield 129, 55, 823, 798, 0), none, none, some (.aload_n 0, 56, 0, 0, 0), some (.getfield 129, 59, 823, 798, 0), none, none, some (.ireturn, 60, 0, 0, 0)]
/-- NeedleTelegraph.back -/
abbrev m_185 : Mth := (yX8_back, cX8_back, 1, (some .int), 1, false, 7)
def c_185 : List (Option Ent) := [some (.aload_n 0, 1, 0, 0, 0), some (.getfield 51, 4, 706, 415, 1), none, none, some (.aload_n 0, 5, 0, 0, 0), some (.getfield 35, 8, 703, 412, 1), none, none, some (.invokevirtual 172, 11, 121, 576, 0), none, none, some (.ifCond .ne 6, 14, 17, 0, 0), none, none, some (.bipush (-2), 16, 0, 0, (-2)), none, some (.ireturn, 17, 0, 0, 0), some (.aload_n 0, 18, 0, 0, 0), some (.getfield 47, 21, 705, 414, 1), none, none, some (.invokevirtual 237, 24, 48, 401, 0), none, none, some (.aload_n 0, 25, 0, 0, 0), some (.getfield 51, 28, 706, 415, 1), none, none, some (.invokevirtual 176, 31, 122, 580, 0), none, none, some (.ireturn, 32, 0, 0, 0)]
/-- NeedleTelegraphModel.back -/
abbrev m_186 : Mth := (yX9_back, cX9_back, 2, (some .int), 1, false, 8)
def c_186 : List (Option Ent) := [some (.aload_n 0, 1, 0, 0, 0), some (.getfield 129, 4, 823, 798, 0), none, none, some (.ifCond .ne 6, 7, 10, 0, 0), none, none, some (.bipush (-2), 9, 0, 0, (-2)), none, some (.ireturn, 10, 0, 0, 0), some (.aload_n 0, 11, 0, 0, 0), some (.dup, 12, 0, 0, 0), some (.getfield 129, 15, 823, 798, 0), none, none, some (.iconst 1, 16, 0, 0, 1), some (.isub, 17, 0, 0, 0), some (.putfield 129, 20, 823, 798, 0), none, none, some (.iconst 0, 21, 0, 0, 0), some (.istore_n 1, 22, 0, 0, 0), some (.iload_n 1, 23, 0, 0, 0), some (.bipush 39, 25, 0, 0, 39), none, some (.if_icmp .ge 29, 28, 54, 0, 0), none, none, some (.aload_n 0, 29, 0, 0, 0), some (.getfield 40, 32, 816, 791, 1), none, none, some (.iload_n 1, 33, 0, 0, 0), some (.aload_n 0, 34, 0, 0, 0), some (.getfield 52, 37, 824, 799, 1), none, none, some (.bipush 39, 39, 0, 0, 39), none, some (.aload_n 0, 40, 0, 0, 0), some (.getfield 129, 43, 823, 798, 0), none, none, some (.imul, 44, 0, 0, 0), some (.iload_n 1, 45, 0, 0, 0), some (.iadd, 46, 0, 0, 0), some (.iaload, 47, 0, 0, 0), some (.iastore, 48, 0, 0, 0), some (.iinc 1 1, 51, 0, 0, 1), none, none, some (.goto (-29), 54, 22, 0, 0), none, none, some (.aload_n 0, 55, 0, 0, 0), some (.iconst 0, 56, 0, 0, 0), some (.putfield 126, 59, 818, 793, 0), none, none, some (.aload_n 0, 60, 0, 0, 0), some (.getfield 129, 63, 823, 798, 0), none, none, some (.ireturn, 64, 0, 0, 0)]
/-- NeedleTelegraph$Moment.howManyIndoors -/
abbrev m_187 : Mth := (yX2_howManyIndoors, cX2_howManyIndoors, 1, (some .int), 1, false, 2)
def c_187 : List (Option Ent) := [some (.aload_n 0, 1, 0, 0, 0), some (.getfield 29, 4, 204, 148, 0), none, none, some (.invokestatic 48, 7, 143, 749, 0), none, none, some (.ireturn, 8, 0, 0, 0)]
/-- NeedleTelegraph.count -/
abbrev m_188 : Mth := (yX8_count, cX8_count, 2, (some .int), 2, false, 7)
def c_188 : List (Option Ent) := [some (.iload_n 1, 1, 0, 0, 0), some (.tableswitch 137 0 9 #[55, 63, 71, 79, 87, 96, 105, 113, 121, 129], 56, 0, 0, 0), none, none, none, none, none, none, none, none, none, none, none, none, none, none, none, none, none, none, none, none, none, none, none, none, none, none, none, none, none, none, none, none, none, none, none, none, none, none, none, none, none, none, none, none, none, none, none, none, none, none, none, none, none, none, some (.aload_n 0, 57, 0, 0, 0), some (.getfield 28, 60, 702, 411, 1), none, none, some (.invokevirtual 92, 63, 72, 453, 0), none, none, some (.ireturn, 64, 0, 0, 0), some (.aload_n 0, 65, 0, 0, 0), some (.getfield 35, 68, 703, 412, 1), none, none, some (.invokevirtual 166, 71, 115, 559, 0), none, none, some (.ireturn, 72, 0, 0, 0), some (.aload_n 0, 73, 0, 0, 0), some (.getfield 35, 76, 703, 412, 1), none, none, some (.invokevirtual 167, 79, 116, 563, 0), none, none, some (.ireturn, 80, 0, 0, 0), some (.aload_n 0, 81, 0, 0, 0), some (.getfield 35, 84, 703, 412, 1), none, none, some (.invokevirtual 238, 87, 187, 745, 0), none, none, some (.ireturn, 88, 0, 0, 0), some (.aload_n 0, 89, 0, 0, 0), some (.getfield 35, 92, 703, 412, 1), none, none, some (.iconst 1, 93, 0, 0, 1), some (.invokevirtual 157, 96, 105, 545, 0), none, none, some (.ireturn, 97, 0, 0, 0), some (.aload_n 0, 98, 0, 0, 0), some (.getfield 35, 101, 703, 412, 1), none, none, some (.iconst 2, 102, 0, 0, 2), some (.invokevirtual 157, 105, 105, 545, 0), none, none, some (.ireturn, 106, 0, 0, 0), some (.aload_n 0, 107, 0, 0, 0), some (.getfield 57, 110, 707, 416, 1), none, none, some (.invokevirtual 206, 113, 157, 668, 0), none, none, some (.ireturn, 114, 0, 0, 0), some (.aload_n 0, 115, 0, 0, 0), some (.getfield 47, 118, 705, 414, 1), none, none, some (.invokevirtual 176, 121, 122, 580, 0), none, none, some (.ireturn, 122, 0, 0, 0), some (.aload_n 0, 123, 0, 0, 0), some (.getfield 51, 126, 706, 415, 1), none, none, some (.invokevirtual 176, 129, 122, 580, 0), none, none, some (.ireturn, 130, 0, 0, 0), some (.aload_n 0, 131, 0, 0, 0), some (.getfield 10, 134, 700, 409, 1), none, none, some (.invokevirtual 90, 137, 19, 440, 0), none, none, some (.ireturn, 138, 0, 0, 0), some (.iconst (-1), 139, 0, 0, (-1)), some (.ireturn, 140, 0, 0, 0)]
/-- NeedleTelegraphModel.atChairs -/
abbrev m_189 : Mth := (yX9_atChairs, cX9_atChairs, 3, (some .int), 1, false, 8)
def c_189 : List (Option Ent) := [some (.iconst 0, 1, 0, 0, 0), some (.istore_n 1, 2, 0, 0, 0), some (.iconst 0, 3, 0, 0, 0), some (.istore_n 2, 4, 0, 0, 0), some (.iload_n 2, 5, 0, 0, 0), some (.aload_n 0, 6, 0, 0, 0), some (.getfield 40, 9, 816, 791, 1), none, none, some (.iconst 2, 10, 0, 0, 2), some (.iaload, 11, 0, 0, 0), some (.if_icmp .ge 30, 14, 41, 0, 0), none, none, some (.iload_n 1, 15, 0, 0, 0), some (.aload_n 0, 16, 0, 0, 0), some (.getfield 40, 19, 816, 791, 1), none, none, some (.iload_n 2, 20, 0, 0, 0), some (.iconst 1, 21, 0, 0, 1), some (.invokestatic 135, 24, 79, 910, 0), none, none, some (.iconst 1, 25, 0, 0, 1), some (.if_icmp .ne 7, 28, 32, 0, 0), none, none, some (.iconst 1, 29, 0, 0, 1), some (.goto 4, 32, 33, 0, 0), none, none, some (.iconst 0, 33, 0, 0, 0), some (.iadd, 34, 0, 0, 0), some (.istore_n 1, 35, 0, 0, 0), some (.iinc 2 1, 38, 0, 0, 1), none, none, some (.goto (-34), 41, 4, 0, 0), none, none, some (.iload_n 1, 42, 0, 0, 0), some (.ireturn, 43, 0, 0, 0)]
/-- NeedleTelegraphModel.count -/
abbrev m_190 : Mth := (yX9_count, cX9_count, 2, (some .int), 2, false, 8)
def c_190 : List (Option Ent) := [some (.iload_n 1, 1, 0, 0, 0), some (.tableswitch 117 0 9 #[55, 60, 67, 74, 84, 89, 97, 102, 107, 112], 56, 0, 0, 0), none, none, none, none, none, none, none, none, none, none, none, none, none, none, none, none, none, none, none, none, none, none, none, none, none, none, none, none, none, none, none, none, none, none, none, none, none, none, none, none, none, none, none, none, none, none, none, none, none, none, none, none, none, none, some (.aload_n 0, 57, 0, 0, 0), some (.getfield 119, 60, 812, 787, 0), none, none, some (.ireturn, 61, 0, 0, 0), some (.aload_n 0, 62, 0, 0, 0), some (.getfield 40, 65, 816, 791, 1), none, none, some (.iconst 2, 66, 0, 0, 2), some (.iaload, 67, 0, 0, 0), some (.ireturn, 68, 0, 0, 0), some (.aload_n 0, 69, 0, 0, 0), some (.getfield 40, 72, 816, 791, 1), none, none, some (.iconst 0, 73, 0, 0, 0), some (.iaload, 74, 0, 0, 0), some (.ireturn, 75, 0, 0, 0), some (.aload_n 0, 76, 0, 0, 0), some (.getfield 40, 79, 816, 791, 1), none, none, some (.iconst 1, 80, 0, 0, 1), some (.iaload, 81, 0, 0, 0), some (.invokestatic 188, 84, 145, 1008, 0), none, none, some (.ireturn, 85, 0, 0, 0), some (.aload_n 0, 86, 0, 0, 0), some (.invokevirtual 220, 89, 189, 1083, 0), none, none, some (.ireturn, 90, 0, 0, 0), some (.aload_n 0, 91, 0, 0, 0), some (.getfield 40, 94, 816, 791, 1), none, none, some (.invokestatic 174, 97, 111, 957, 0), none, none, some (.ireturn, 98, 0, 0, 0), some (.aload_n 0, 99, 0, 0, 0), some (.getfield 132, 102, 821, 796, 0), none, none, some (.ireturn, 103, 0, 0, 0), some (.aload_n 0, 104, 0, 0, 0), some (.getfield 126, 107, 818, 793, 0), none, none, some (.ireturn, 108, 0, 0, 0), some (.aload_n 0, 109, 0, 0, 0), some (.getfield 129, 112, 823, 798, 0), none, none, some (.ireturn, 113, 0, 0, 0), some (.aload_n 0, 114, 0, 0, 0), some (.getfield 90, 117, 800, 775, 0), none, none, some (.ireturn, 118, 0, 0, 0), some (.iconst (-1), 119, 0, 0, (-1)), some (.ireturn, 120, 0, 0, 0)]
/-- NeedleTelegraphLaw.law -/
abbrev m_191 : Mth := (yL_law, cL_law, 4, (some .boolean), 1, true, 60)
def c_191 : List (Option Ent) := [some (.new 7, 3, 7, 56, 0), none, none, some (.dup, 4, 0, 0, 0), some (.invokespecial 9, 7, 51, 58, 0), none, none, some (.astore_n 1, 8, 0, 0, 0), some (.new 10, 11, 8, 750, 0), none, none, some (.dup, 12, 0, 0, 0), some (.invokespecial 12, 15, 57, 752, 0), none, none, some (.astore_n 2, 16, 0, 0, 0), some (.iconst 0, 17, 0, 0, 0), some (.istore_n 3, 18, 0, 0, 0), some (.iload_n 3, 19, 0, 0, 0), some (.aload_n 0, 20, 0, 0, 0), some (.arraylength, 21, 0, 0, 0), some (.iconst 5, 22, 0, 0, 5), some (.isub, 23, 0, 0, 0), some (.if_icmp .gt 887, 26, 910, 0, 0), none, none, some (.aload_n 0, 27, 0, 0, 0), some (.iload_n 3, 28, 0, 0, 0), some (.iaload, 29, 0, 0, 0), some (.bipush 31, 31, 0, 0, 31), none, some (.iand, 32, 0, 0, 0), some (.tableswitch 872 0 27 #[128, 151, 164, 177, 190, 223, 256, 289, 312, 335, 368, 401, 414, 457, 490, 523, 556, 579, 612, 635, 678, 691, 714, 727, 780, 823, 836, 849], 160, 0, 0, 0), none, none, none, none, none, none, none, none, none, none, none, none, none, none, none, none, none, none, none, none, none, none, none, none, none, none, none, none, none, none, none, none, none, none, none, none, none, none, none, none, none, none, none, none, none, none, none, none, none, none, none, none, none, none, none, none, none, none, none, none, none, none, none, none, none, none, none, none, none, none, none, none, none, none, none, none, none, none, none, none, none, none, none, none, none, none, none, none, none, none, none, none, none, none, none, none, none, none, none, none, none, none, none, none, none, none, none, none, none, none, none, none, none, none, none, none, none, none, none, none, none, none, none, none, none, none, none, some (.aload_n 1, 161, 0, 0, 0), some (.aload_n 0, 162, 0, 0, 0), some (.iload_n 3, 163, 0, 0, 0), some (.iconst 1, 164, 0, 0, 1), some (.iadd, 165, 0, 0, 0), some (.iaload, 166, 0, 0, 0), some (.invokevirtual 13, 169, 58, 435, 0), none, none, some (.aload_n 2, 170, 0, 0, 0), some (.aload_n 0, 171, 0, 0, 0), some (.iload_n 3, 172, 0, 0, 0), some (.iconst 1, 173, 0, 0, 1), some (.iadd, 174, 0, 0, 0), some (.iaload, 175, 0, 0, 0), some (.invokevirtual 17, 178, 60, 851, 0), none, none, some (.if_icmp .eq 726, 181, 904, 0, 0), none, none, some (.iconst 0, 182, 0, 0, 0), some (.ireturn, 183, 0, 0, 0), some (.aload_n 1, 184, 0, 0, 0), some (.invokevirtual 18, 187, 61, 441, 0), none, none, some (.aload_n 2, 188, 0, 0, 0), some (.invokevirtual 22, 191, 62, 858, 0), none, none, some (.if_icmp .eq 713, 194, 904, 0, 0), none, none, some (.iconst 0, 195, 0, 0, 0), some (.ireturn, 196, 0, 0, 0), some (.aload_n 1, 197, 0, 0, 0), some (.invokevirtual 23, 200, 63, 445, 0), none, none, some (.aload_n 2, 201, 0, 0, 0), some (.invokevirtual 26, 204, 71, 862, 0), none, none, some (.if_icmp .eq 700, 207, 904, 0, 0), none, none, some (.iconst 0, 208, 0, 0, 0), some (.ireturn, 209, 0, 0, 0), some (.aload_n 1, 210, 0, 0, 0), some (.invokevirtual 27, 213, 73, 449, 0), none, none, some (.aload_n 2, 214, 0, 0, 0), some (.invokevirtual 30, 217, 74, 894, 0), none, none, some (.if_icmp .eq 687, 220, 904, 0, 0), none, none, some (.iconst 0, 221, 0, 0, 0), some (.ireturn, 222, 0, 0, 0), some (.aload_n 1, 223, 0, 0, 0), some (.aload_n 0, 224, 0, 0, 0), some (.iload_n 3, 225, 0, 0, 0), some (.iconst 1, 226, 0, 0, 1), some (.iadd, 227, 0, 0, 0), some (.iaload, 228, 0, 0, 0), some (.aload_n 0, 229, 0, 0, 0), some (.iload_n 3, 230, 0, 0, 0), some (.iconst 2, 231, 0, 0, 2), some (.iadd, 232, 0, 0, 0), some (.iaload, 233, 0, 0, 0), some (.invokevirtual 31, 236, 77, 457, 0), none, none, some (.aload_n 2, 237, 0, 0, 0), some (.aload_n 0, 238, 0, 0, 0), some (.iload_n 3, 239, 0, 0, 0), some (.iconst 1, 240, 0, 0, 1), some (.iadd, 241, 0, 0, 0), some (.iaload, 242, 0, 0, 0), some (.aload_n 0, 243, 0, 0, 0), some (.iload_n 3, 244, 0, 0, 0), some (.iconst 2, 245, 0, 0, 2), some (.iadd, 246, 0, 0, 0), some (.iaload, 247, 0, 0, 0), some (.invokevirtual 35, 250, 81, 898, 0), none, none, some (.if_icmp .eq 654, 253, 904, 0, 0), none, none, some (.iconst 0, 254, 0, 0, 0), some (.ireturn, 255, 0, 0, 0), some (.aload_n 1, 256, 0, 0, 0), some (.aload_n 0, 257, 0, 0, 0), some (.iload_n 3, 258, 0, 0, 0), some (.iconst 1, 259, 0, 0, 1), some (.iadd, 260, 0, 0, 0), some (.iaload, 261, 0, 0, 0), some (.aload_n 0, 262, 0, 0, 0), some (.iload_n 3, 263, 0, 0, 0), some (.iconst 2, 264, 0, 0, 2), some (.iadd, 265, 0, 0, 0), some (.iaload, 266, 0, 0, 0), some (.invokevirtual 36, 269, 83, 474, 0), none, none, some (.aload_n 2, 270, 0, 0, 0), some (.aload_n 0, 271, 0, 0, 0), some (.iload_n 3, 272, 0, 0, 0), some (.iconst 1, 273, 0, 0, 1), some (.iadd, 274, 0, 0, 0), some (.iaload, 275, 0, 0, 0), some (.aload_n 0, 276, 0, 0, 0), some (.iload_n 3, 277, 0, 0, 0), some (.iconst 2, 278, 0, 0, 2), some (.iadd, 279, 0, 0, 0), some (.iaload, 280, 0, 0, 0), some (.invokevirtual 39, 283, 85, 913, 0), none, none, some (.if_icmp .eq 621, 286, 904, 0, 0), none, none, some (.iconst 0, 287, 0, 0, 0), some (.ireturn, 288, 0, 0, 0), some (.aload_n 1, 289, 0, 0, 0), some (.aload_n 0, 290, 0, 0, 0), some (.iload_n 3, 291, 0, 0, 0), some (.iconst 1, 292, 0, 0, 1), some (.iadd, 293, 0, 0, 0), some (.iaload, 294, 0, 0, 0), some (.aload_n 0, 295, 0, 0, 0), some (.iload_n 3, 296, 0, 0, 0), some (.iconst 2, 297, 0, 0, 2), some (.iadd, 298, 0, 0, 0), some (.iaload, 299, 0, 0, 0), some (.invokevirtual 40, 302, 93, 483, 0), none, none, some (.aload_n 2, 303, 0, 0, 0), some (.aload_n 0, 304, 0, 0, 0), some (.iload_n 3, 305, 0, 0, 0), some (.iconst 1, 306, 0, 0, 1), some (.iadd, 307, 0, 0, 0), some (.iaload, 308, 0, 0, 0), some (.aload_n 0, 309, 0, 0, 0), some (.iload_n 3, 310, 0, 0, 0), some (.iconst 2, 311, 0, 0, 2), some (.iadd, 312, 0, 0, 0), some (.iaload, 313, 0, 0, 0), some (.invokevirtual 43, 316, 98, 921, 0), none, none, some (.if_icmp .eq 588, 319, 904, 0, 0), none, none, some (.iconst 0, 320, 0, 0, 0), some (.ireturn, 321, 0, 0, 0), some (.aload_n 1, 322, 0, 0, 0), some (.aload_n 0, 323, 0, 0, 0), some (.iload_n 3, 324, 0, 0, 0), some (.iconst 1, 325, 0, 0, 1), some (.iadd, 326, 0, 0, 0), some (.iaload, 327, 0, 0, 0), some (.invokevirtual 44, 330, 106, 511, 0), none, none, some (.aload_n 2, 331, 0, 0, 0), some (.aload_n 0, 332, 0, 0, 0), some (.iload_n 3, 333, 0, 0, 0), some (.iconst 1, 334, 0, 0, 1), some (.iadd, 335, 0, 0, 0), some (.iaload, 336, 0, 0, 0), some (.invokevirtual 47, 339, 112, 938, 0), none, none, some (.if_icmp .eq 565, 342, 904, 0, 0), none, none, some (.iconst 0, 343, 0, 0, 0), some (.ireturn, 344, 0, 0, 0), some (.aload_n 1, 345, 0, 0, 0), some (.aload_n 0, 346, 0, 0, 0), some (.iload_n 3, 347, 0, 0, 0), some (.iconst 1, 348, 0, 0, 1), some (.iadd, 349, 0, 0, 0), some (.iaload, 350, 0, 0, 0), some (.invokevirtual 48, 353, 113, 549, 0), none, none, some (.aload_n 2, 354, 0, 0, 0), some (.aload_n 0, 355, 0, 0, 0), some (.iload_n 3, 356, 0, 0, 0), some (.iconst 1, 357, 0, 0, 1), some (.iadd, 358, 0, 0, 0), some (.iaload, 359, 0, 0, 0), some (.invokevirtual 51, 362, 114, 960, 0), none, none, some (.if_icmp .eq 542, 365, 904, 0, 0), none, none, some (.iconst 0, 366, 0, 0, 0), some (.ireturn, 367, 0, 0, 0), some (.aload_n 1, 368, 0, 0, 0), some (.aload_n 0, 369, 0, 0, 0), some (.iload_n 3, 370, 0, 0, 0), some (.iconst 1, 371, 0, 0, 1), some (.iadd, 372, 0, 0, 0), some (.iaload, 373, 0, 0, 0), some (.aload_n 0, 374, 0, 0, 0), some (.iload_n 3, 375, 0, 0, 0), some (.iconst 2, 376, 0, 0, 2), some (.iadd, 377, 0, 0, 0), some (.iaload, 378, 0, 0, 0), some (.invokevirtual 52, 381, 117, 554, 0), none, none, some (.aload_n 2, 382, 0, 0, 0), some (.aload_n 0, 383, 0, 0, 0), some (.iload_n 3, 384, 0, 0, 0), some (.iconst 1, 385, 0, 0, 1), some (.iadd, 386, 0, 0, 0), some (.iaload, 387, 0, 0, 0), some (.aload_n 0, 388, 0, 0, 0), some (.iload_n 3, 389, 0, 0, 0), some (.iconst 2, 390, 0, 0, 2), some (.iadd, 391, 0, 0, 0), some (.iaload, 392, 0, 0, 0), some (.invokevirtual 55, 395, 118, 964, 0), none, none, some (.if_icmp .eq 509, 398, 904, 0, 0), none, none, some (.iconst 0, 399, 0, 0, 0), some (.ireturn, 400, 0, 0, 0), some (.aload_n 1, 401, 0, 0, 0), some (.aload_n 0, 402, 0, 0, 0), some (.iload_n 3, 403, 0, 0, 0), some (.iconst 1, 404, 0, 0, 1), some (.iadd, 405, 0, 0, 0), some (.iaload, 406, 0, 0, 0), some (.aload_n 0, 407, 0, 0, 0), some (.iload_n 3, 408, 0, 0, 0), some (.iconst 2, 409, 0, 0, 2), some (.iadd, 410, 0, 0, 0), some (.iaload, 411, 0, 0, 0), some (.invokevirtual 56, 414, 119, 568, 0), none, none, some (.aload_n 2, 415, 0, 0, 0), some (.aload_n 0, 416, 0, 0, 0), some (.iload_n 3, 417, 0, 0, 0), some (.iconst 1, 418, 0, 0, 1), some (.iadd, 419, 0, 0, 0), some (.iaload, 420, 0, 0, 0), some (.aload_n 0, 421, 0, 0, 0), some (.iload_n 3, 422, 0, 0, 0), some (.iconst 2, 423, 0, 0, 2), some (.iadd, 424, 0, 0, 0), some (.iaload, 425, 0, 0, 0), some (.invokevirtual 59, 428, 120, 968, 0), none, none, some (.if_icmp .eq 476, 431, 904, 0, 0), none, none, some (.iconst 0, 432, 0, 0, 0), some (.ireturn, 433, 0, 0, 0), some (.aload_n 1, 434, 0, 0, 0), some (.invokevirtual 60, 437, 123, 572, 0), none, none, some (.aload_n 2, 438, 0, 0, 0), some (.invokevirtual 63, 441, 124, 972, 0), none, none, some (.if_icmp .eq 463, 444, 904, 0, 0), none, none, some (.iconst 0, 445, 0, 0, 0), some (.ireturn, 446, 0, 0, 0), some (.aload_n 1, 447, 0, 0, 0), some (.aload_n 0, 448, 0, 0, 0), some (.iload_n 3, 449, 0, 0, 0), some (.iconst 1, 450, 0, 0, 1), some (.iadd, 451, 0, 0, 0), some (.iaload, 452, 0, 0, 0), some (.aload_n 0, 453, 0, 0, 0), some (.iload_n 3, 454, 0, 0, 0), some (.iconst 2, 455, 0, 0, 2), some (.iadd, 456, 0, 0, 0), some (.iaload, 457, 0, 0, 0), some (.aload_n 0, 458, 0, 0, 0), some (.iload_n 3, 459, 0, 0, 0), some (.iconst 3, 460, 0, 0, 3), some (.iadd, 461, 0, 0, 0), some (.iaload, 462, 0, 0, 0), some (.invokevirtual 64, 465, 129, 584, 0), none, none, some (.aload_n 2, 466, 0, 0, 0), some (.aload_n 0, 467, 0, 0, 0), some (.iload_n 3, 468, 0, 0, 0), some (.iconst 1, 469, 0, 0, 1), some (.iadd, 470, 0, 0, 0), some (.iaload, 471, 0, 0, 0), some (.aload_n 0, 472, 0, 0, 0), some (.iload_n 3, 473, 0, 0, 0), some (.iconst 2, 474, 0, 0, 2), some (.iadd, 475, 0, 0, 0), some (.iaload, 476, 0, 0, 0), some (.aload_n 0, 477, 0, 0, 0), some (.iload_n 3, 478, 0, 0, 0), some (.iconst 3, 479, 0, 0, 3), some (.iadd, 480, 0, 0, 0), some (.iaload, 481, 0, 0, 0), some (.invokevirtual 68, 484, 132, 976, 0), none, none, some (.if_icmp .eq 420, 487, 904, 0, 0), none, none, some (.iconst 0, 488, 0, 0, 0), some (.ireturn, 489, 0, 0, 0), some (.aload_n 1, 490, 0, 0, 0), some (.aload_n 0, 491, 0, 0, 0), some (.iload_n 3, 492, 0, 0, 0), some (.iconst 1, 493, 0, 0, 1), some (.iadd, 494, 0, 0, 0), some (.iaload, 495, 0, 0, 0), some (.aload_n 0, 496, 0, 0, 0), some (.iload_n 3, 497, 0, 0, 0), some (.iconst 2, 498, 0, 0, 2), some (.iadd, 499, 0, 0, 0), some (.iaload, 500, 0, 0, 0), some (.invokevirtual 69, 503, 136, 607, 0), none, none, some (.aload_n 2, 504, 0, 0, 0), some (.aload_n 0, 505, 0, 0, 0), some (.iload_n 3, 506, 0, 0, 0), some (.iconst 1, 507, 0, 0, 1), some (.iadd, 508, 0, 0, 0), some (.iaload, 509, 0, 0, 0), some (.aload_n 0, 510, 0, 0, 0), some (.iload_n 3, 511, 0, 0, 0), some (.iconst 2, 512, 0, 0, 2), some (.iadd, 513, 0, 0, 0), some (.iaload, 514, 0, 0, 0), some (.invokevirtual 72, 517, 138, 988, 0), none, none, some (.if_icmp .eq 387, 520, 904, 0, 0), none, none, some (.iconst 0, 521, 0, 0, 0), some (.ireturn, 522, 0, 0, 0), some (.aload_n 1, 523, 0, 0, 0), some (.aload_n 0, 524, 0, 0, 0), some (.iload_n 3, 525, 0, 0, 0), some (.iconst 1, 526, 0, 0, 1), some (.iadd, 527, 0, 0, 0), some (.iaload, 528, 0, 0, 0), some (.aload_n 0, 529, 0, 0, 0), some (.iload_n 3, 530, 0, 0, 0), some (.iconst 2, 531, 0, 0, 2), some (.iadd, 532, 0, 0, 0), some (.iaload, 533, 0, 0, 0), some (.invokevirtual 73, 536, 139, 625, 0), none, none, some (.aload_n 2, 537, 0, 0, 0), some (.aload_n 0, 538, 0, 0, 0), some (.iload_n 3, 539, 0, 0, 0), some (.iconst 1, 540, 0, 0, 1), some (.iadd, 541, 0, 0, 0), some (.iaload, 542, 0, 0, 0), some (.aload_n 0, 543, 0, 0, 0), some (.iload_n 3, 544, 0, 0, 0), some (.iconst 2, 545, 0, 0, 2), some (.iadd, 546, 0, 0, 0), some (.iaload, 547, 0, 0, 0), some (.invokevirtual 76, 550, 140, 996, 0), none, none, some (.if_icmp .eq 354, 553, 904, 0, 0), none, none, some (.iconst 0, 554, 0, 0, 0), some (.ireturn, 555, 0, 0, 0), some (.aload_n 1, 556, 0, 0, 0), some (.aload_n 0, 557, 0, 0, 0), some (.iload_n 3, 558, 0, 0, 0), some (.iconst 1, 559, 0, 0, 1), some (.iadd, 560, 0, 0, 0), some (.iaload, 561, 0, 0, 0), some (.aload_n 0, 562, 0, 0, 0), some (.iload_n 3, 563, 0, 0, 0), some (.iconst 2, 564, 0, 0, 2), some (.iadd, 565, 0, 0, 0), some (.iaload, 566, 0, 0, 0), some (.invokevirtual 77, 569, 141, 629, 0), none, none, some (.aload_n 2, 570, 0, 0, 0), some (.aload_n 0, 571, 0, 0, 0), some (.iload_n 3, 572, 0, 0, 0), some (.iconst 1, 573, 0, 0, 1), some (.iadd, 574, 0, 0, 0), some (.iaload, 575, 0, 0, 0), some (.aload_n 0, 576, 0, 0, 0), some (.iload_n 3, 577, 0, 0, 0), some (.iconst 2, 578, 0, 0, 2), some (.iadd, 579, 0, 0, 0), some (.iaload, 580, 0, 0, 0), some (.invokevirtual 80, 583, 142, 1000, 0), none, none, some (.if_icmp .eq 321, 586, 904, 0, 0), none, none, some (.iconst 0, 587, 0, 0, 0), some (.ireturn, 588, 0, 0, 0), some (.aload_n 1, 589, 0, 0, 0), some (.aload_n 0, 590, 0, 0, 0), some (.iload_n 3, 591, 0, 0, 0), some (.iconst 1, 592, 0, 0, 1), some (.iadd, 593, 0, 0, 0), some (.iaload, 594, 0, 0, 0), some (.invokevirtual 81, 597, 144, 633, 0), none, none, some (.aload_n 2, 598, 0, 0, 0), some (.aload_n 0, 599, 0, 0, 0), some (.iload_n 3, 600, 0, 0, 0), some (.iconst 1, 601, 0, 0, 1), some (.iadd, 602, 0, 0, 0), some (.iaload, 603, 0, 0, 0), some (.invokevirtual 84, 606, 147, 1004, 0), none, none, some (.if_icmp .eq 298, 609, 904, 0, 0), none, none, some (.iconst 0, 610, 0, 0, 0), some (.ireturn, 611, 0, 0, 0), some (.aload_n 1, 612, 0, 0, 0), some (.aload_n 0, 613, 0, 0, 0), some (.iload_n 3, 614, 0, 0, 0), some (.iconst 1, 615, 0, 0, 1), some (.iadd, 616, 0, 0, 0), some (.iaload, 617, 0, 0, 0), some (.aload_n 0, 618, 0, 0, 0), some (.iload_n 3, 619, 0, 0, 0), some (.iconst 2, 620, 0, 0, 2), some (.iadd, 621, 0, 0, 0), some (.iaload, 622, 0, 0, 0), some (.invokevirtual 85, 625, 149, 643, 0), none, none, some (.aload_n 2, 626, 0, 0, 0), some (.aload_n 0, 627, 0, 0, 0), some (.iload_n 3, 628, 0, 0, 0), some (.iconst 1, 629, 0, 0, 1), some (.iadd, 630, 0, 0, 0), some (.iaload, 631, 0, 0, 0), some (.aload_n 0, 632, 0, 0, 0), some (.iload_n 3, 633, 0, 0, 0), some (.iconst 2, 634, 0, 0, 2), some (.iadd, 635, 0, 0, 0), some (.iaload, 636, 0, 0, 0), some (.invokevirtual 88, 639, 151, 1015, 0), none, none, some (.if_icmp .eq 265, 642, 904, 0, 0), none, none, some (.iconst 0, 643, 0, 0, 0), some (.ireturn, 644, 0, 0, 0), some (.aload_n 1, 645, 0, 0, 0), some (.aload_n 0, 646, 0, 0, 0), some (.iload_n 3, 647, 0, 0, 0), some (.iconst 1, 648, 0, 0, 1), some (.iadd, 649, 0, 0, 0), some (.iaload, 650, 0, 0, 0), some (.invokevirtual 89, 653, 153, 651, 0), none, none, some (.aload_n 2, 654, 0, 0, 0), some (.aload_n 0, 655, 0, 0, 0), some (.iload_n 3, 656, 0, 0, 0), some (.iconst 1, 657, 0, 0, 1), some (.iadd, 658, 0, 0, 0), some (.iaload, 659, 0, 0, 0), some (.invokevirtual 92, 662, 155, 1022, 0), none, none, some (.if_icmp .eq 242, 665, 904, 0, 0), none, none, some (.iconst 0, 666, 0, 0, 0), some (.ireturn, 667, 0, 0, 0), some (.aload_n 1, 668, 0, 0, 0), some (.aload_n 0, 669, 0, 0, 0), some (.iload_n 3, 670, 0, 0, 0), some (.iconst 1, 671, 0, 0, 1), some (.iadd, 672, 0, 0, 0), some (.iaload, 673, 0, 0, 0), some (.aload_n 0, 674, 0, 0, 0), some (.iload_n 3, 675, 0, 0, 0), some (.iconst 2, 676, 0, 0, 2), some (.iadd, 677, 0, 0, 0), some (.iaload, 678, 0, 0, 0), some (.aload_n 0, 679, 0, 0, 0), some (.iload_n 3, 680, 0, 0, 0), some (.iconst 3, 681, 0, 0, 3), some (.iadd, 682, 0, 0, 0), some (.iaload, 683, 0, 0, 0), some (.invokevirtual 93, 686, 158, 659, 0), none, none, some (.aload_n 2, 687, 0, 0, 0), some (.aload_n 0, 688, 0, 0, 0), some (.iload_n 3, 689, 0, 0, 0), some (.iconst 1, 690, 0, 0, 1), some (.iadd, 691, 0, 0, 0), some (.iaload, 692, 0, 0, 0), some (.aload_n 0, 693, 0, 0, 0), some (.iload_n 3, 694, 0, 0, 0), some (.iconst 2, 695, 0, 0, 2), some (.iadd, 696, 0, 0, 0), some (.iaload, 697, 0, 0, 0), some (.aload_n 0, 698, 0, 0, 0), some (.iload_n 3, 699, 0, 0, 0), some (.iconst 3, 700, 0, 0, 3), some (.iadd, 701, 0, 0, 0), some (.iaload, 702, 0, 0, 0), some (.invokevirtual 96, 705, 159, 1030, 0), none, none, some (.if_icmp .eq 199, 708, 904, 0, 0), none, none, some (.iconst 0, 709, 0, 0, 0), some (.ireturn, 710, 0, 0, 0), some (.aload_n 1, 711, 0, 0, 0), some (.invokevirtual 97, 714, 160, 672, 0), none, none, some (.aload_n 2, 715, 0, 0, 0), some (.invokevirtual 100, 718, 161, 1034, 0), none, none, some (.if_icmp .eq 186, 721, 904, 0, 0), none, none, some (.iconst 0, 722, 0, 0, 0), some (.ireturn, 723, 0, 0, 0), some (.aload_n 1, 724, 0, 0, 0), some (.aload_n 0, 725, 0, 0, 0), some (.iload_n 3, 726, 0, 0, 0), some (.iconst 1, 727, 0, 0, 1), some (.iadd, 728, 0, 0, 0), some (.iaload, 729, 0, 0, 0), some (.invokevirtual 101, 732, 164, 676, 0), none, none, some (.aload_n 2, 733, 0, 0, 0), some (.aload_n 0, 734, 0, 0, 0), some (.iload_n 3, 735, 0, 0, 0), some (.iconst 1, 736, 0, 0, 1), some (.iadd, 737, 0, 0, 0), some (.iaload, 738, 0, 0, 0), some (.invokevirtual 104, 741, 166, 1038, 0), none, none, some (.if_icmp .eq 163, 744, 904, 0, 0), none, none, some (.iconst 0, 745, 0, 0, 0), some (.ireturn, 746, 0, 0, 0), some (.aload_n 1, 747, 0, 0, 0), some (.invokevirtual 105, 750, 167, 690, 0), none, none, some (.aload_n 2, 751, 0, 0, 0), some (.invokevirtual 108, 754, 168, 1046, 0), none, none, some (.if_icmp .eq 150, 757, 904, 0, 0), none, none, some (.iconst 0, 758, 0, 0, 0), some (.ireturn, 759, 0, 0, 0), some (.aload_n 1, 760, 0, 0, 0), some (.aload_n 0, 761, 0, 0, 0), some (.iload_n 3, 762, 0, 0, 0), some (.iconst 1, 763, 0, 0, 1), some (.iadd, 764, 0, 0, 0), some (.iaload, 765, 0, 0, 0), some (.aload_n 0, 766, 0, 0, 0), some (.iload_n 3, 767, 0, 0, 0), some (.iconst 2, 768, 0, 0, 2), some (.iadd, 769, 0, 0, 0), some (.iaload, 770, 0, 0, 0), some (.aload_n 0, 771, 0, 0, 0), some (.iload_n 3, 772, 0, 0, 0), some (.iconst 3, 773, 0, 0, 3), some (.iadd, 774, 0, 0, 0), some (.iaload, 775, 0, 0, 0), some (.aload_n 0, 776, 0, 0, 0), some (.iload_n 3, 777, 0, 0, 0), some (.iconst 4, 778, 0, 0, 4), some (.iadd, 779, 0, 0, 0), some (.iaload, 780, 0, 0, 0), some (.invokevirtual 109, 783, 173, 694, 0), none, none, some (.aload_n 2, 784, 0, 0, 0), some (.aload_n 0, 785, 0, 0, 0), some (.iload_n 3, 786, 0, 0, 0), some (.iconst 1, 787, 0, 0, 1), some (.iadd, 788, 0, 0, 0), some (.iaload, 789, 0, 0, 0), some (.aload_n 0, 790, 0, 0, 0), some (.iload_n 3, 791, 0, 0, 0), some (.iconst 2, 792, 0, 0, 2), some (.iadd, 793, 0, 0, 0), some (.iaload, 794, 0, 0, 0), some (.aload_n 0, 795, 0, 0, 0), some (.iload_n 3, 796, 0, 0, 0), some (.iconst 3, 797, 0, 0, 3), some (.iadd, 798, 0, 0, 0), some (.iaload, 799, 0, 0, 0), some (.aload_n 0, 800, 0, 0, 0), some (.iload_n 3, 801, 0, 0, 0), some (.iconst 4, 802, 0, 0, 4), some (.iadd, 803, 0, 0, 0), some (.iaload, 804, 0, 0, 0), some (.invokevirtual 113, 807, 177, 1050, 0), none, none, some (.if_icmp .eq 97, 810, 904, 0, 0), none, none, some (.iconst 0, 811, 0, 0, 0), some (.ireturn, 812, 0, 0, 0), some (.aload_n 1, 813, 0, 0, 0), some (.aload_n 0, 814, 0, 0, 0), some (.iload_n 3, 815, 0, 0, 0), some (.iconst 1, 816, 0, 0, 1), some (.iadd, 817, 0, 0, 0), some (.iaload, 818, 0, 0, 0), some (.aload_n 0, 819, 0, 0, 0), some (.iload_n 3, 820, 0, 0, 0), some (.iconst 2, 821, 0, 0, 2), some (.iadd, 822, 0, 0, 0), some (.iaload, 823, 0, 0, 0), some (.aload_n 0, 824, 0, 0, 0), some (.iload_n 3, 825, 0, 0, 0), some (.iconst 3, 826, 0, 0, 3), some (.iadd, 827, 0, 0, 0), some (.iaload, 828, 0, 0, 0), some (.invokevirtual 114, 831, 181, 715, 0), none, none, some (.aload_n 2, 832, 0, 0, 0), some (.aload_n 0, 833, 0, 0, 0), some (.iload_n 3, 834, 0, 0, 0), some (.iconst 1, 835, 0, 0, 1), some (.iadd, 836, 0, 0, 0), some (.iaload, 837, 0, 0, 0), some (.aload_n 0, 838, 0, 0, 0), some (.iload_n 3, 839, 0, 0, 0), some (.iconst 2, 840, 0, 0, 2), some (.iadd, 841, 0, 0, 0), some (.iaload, 842, 0, 0, 0), some (.aload_n 0, 843, 0, 0, 0), some (.iload_n 3, 844, 0, 0, 0), some (.iconst 3, 845, 0, 0, 3), some (.iadd, 846, 0, 0, 0), some (.iaload, 847, 0, 0, 0), some (.invokevirtual 117, 850, 182, 1064, 0), none, none, some (.if_icmp .eq 54, 853, 904, 0, 0), none, none, some (.iconst 0, 854, 0, 0, 0), some (.ireturn, 855, 0, 0, 0), some (.aload_n 1, 856, 0, 0, 0), some (.invokevirtual 118, 859, 183, 733, 0), none, none, some (.aload_n 2, 860, 0, 0, 0), some (.invokevirtual 121, 863, 184, 1071, 0), none, none, some (.if_icmp .eq 41, 866, 904, 0, 0), none, none, some (.iconst 0, 867, 0, 0, 0), some (.ireturn, 868, 0, 0, 0), some (.aload_n 1, 869, 0, 0, 0), some (.invokevirtual 122, 872, 185, 737, 0), none, none, some (.aload_n 2, 873, 0, 0, 0), some (.invokevirtual 125, 876, 186, 1075, 0), none, none, some (.if_icmp .eq 28, 879, 904, 0, 0), none, none, some (.iconst 0, 880, 0, 0, 0), some (.ireturn, 881, 0, 0, 0), some (.aload_n 1, 882, 0, 0, 0), some (.aload_n 0, 883, 0, 0, 0), some (.iload_n 3, 884, 0, 0, 0), some (.iconst 1, 885, 0, 0, 1), some (.iadd, 886, 0, 0, 0), some (.iaload, 887, 0, 0, 0), some (.invokevirtual 126, 890, 188, 741, 0), none, none, some (.aload_n 2, 891, 0, 0, 0), some (.aload_n 0, 892, 0, 0, 0), some (.iload_n 3, 893, 0, 0, 0), some (.iconst 1, 894, 0, 0, 1), some (.iadd, 895, 0, 0, 0), some (.iaload, 896, 0, 0, 0), some (.invokevirtual 129, 899, 190, 1079, 0), none, none, some (.if_icmp .eq 5, 902, 904, 0, 0), none, none, some (.iconst 0, 903, 0, 0, 0), some (.ireturn, 904, 0, 0, 0), some (.iinc 3 5, 907, 0, 0, 5), none, none, some (.goto (-889), 910, 18, 0, 0), none, none, some (.iconst 1, 911, 0, 0, 1), some (.ireturn, 912, 0, 0, 0)]
def MTl : List Mth := [m_0, m_1, m_2, m_3, m_4, m_5, m_6, m_7, m_8, m_9, m_10, m_11, m_12, m_13, m_14, m_15, m_16, m_17, m_18, m_19, m_20, m_21, m_22, m_23, m_24, m_25, m_26, m_27, m_28, m_29, m_30, m_31, m_32, m_33, m_34, m_35, m_36, m_37, m_38, m_39, m_40, m_41, m_42, m_43, m_44, m_45, m_46, m_47, m_48, m_49, m_50, m_51, m_52, m_53, m_54, m_55, m_56, m_57, m_58, m_59, m_60, m_61, m_62, m_63, m_64, m_65, m_66, m_67, m_68, m_69, m_70, m_71, m_72, m_73, m_74, m_75, m_76, m_77, m_78, m_79, m_80, m_81, m_82, m_83, m_84, m_85, m_86, m_87, m_88, m_89, m_90, m_91, m_92, m_93, m_94, m_95, m_96, m_97, m_98, m_99, m_100, m_101, m_102, m_103, m_104, m_105, m_106, m_107, m_108, m_109, m_110, m_111, m_112, m_113, m_114, m_115, m_116, m_117, m_118, m_119, m_120, m_121, m_122, m_123, m_124, m_125, m_126, m_127, m_128, m_129, m_130, m_131, m_132, m_133, m_134, m_135, m_136, m_137, m_138, m_139, m_140, m_141, m_142, m_143, m_144, m_145, m_146, m_147, m_148, m_149, m_150, m_151, m_152, m_153, m_154, m_155, m_156, m_157, m_158, m_159, m_160, m_161, m_162, m_163, m_164, m_165, m_166, m_167, m_168, m_169, m_170, m_171, m_172, m_173, m_174, m_175, m_176, m_177, m_178, m_179, m_180, m_181, m_182, m_183, m_184, m_185, m_186, m_187, m_188, m_189, m_190, m_191]
def MCl : List (List (Option Ent)) := [c_0, c_1, c_2, c_3, c_4, c_5, c_6, c_7, c_8, c_9, c_10, c_11, c_12, c_13, c_14, c_15, c_16, c_17, c_18, c_19, c_20, c_21, c_22, c_23, c_24, c_25, c_26, c_27, c_28, c_29, c_30, c_31, c_32, c_33, c_34, c_35, c_36, c_37, c_38, c_39, c_40, c_41, c_42, c_43, c_44, c_45, c_46, c_47, c_48, c_49, c_50, c_51, c_52, c_53, c_54, c_55, c_56, c_57, c_58, c_59, c_60, c_61, c_62, c_63, c_64, c_65, c_66, c_67, c_68, c_69, c_70, c_71, c_72, c_73, c_74, c_75, c_76, c_77, c_78, c_79, c_80, c_81, c_82, c_83, c_84, c_85, c_86, c_87, c_88, c_89, c_90, c_91, c_92, c_93, c_94, c_95, c_96, c_97, c_98, c_99, c_100, c_101, c_102, c_103, c_104, c_105, c_106, c_107, c_108, c_109, c_110, c_111, c_112, c_113, c_114, c_115, c_116, c_117, c_118, c_119, c_120, c_121, c_122, c_123, c_124, c_125, c_126, c_127, c_128, c_129, c_130, c_131, c_132, c_133, c_134, c_135, c_136, c_137, c_138, c_139, c_140, c_141, c_142, c_143, c_144, c_145, c_146, c_147, c_148, c_149, c_150, c_151, c_152, c_153, c_154, c_155, c_156, c_157, c_158, c_159, c_160, c_161, c_162, c_163, c_164, c_165, c_166, c_167, c_168, c_169, c_170, c_171, c_172, c_173, c_174, c_175, c_176, c_177, c_178, c_179, c_180, c_181, c_182, c_183, c_184, c_185, c_186, c_187, c_188, c_189, c_190, c_191]
theorem mt0 : MTl[0]? = some m_0 := rfl
theorem mt1 : MTl[1]? = some m_1 := rfl
theorem mt2 : MTl[2]? = some m_2 := rfl
theorem mt3 : MTl[3]? = some m_3 := rfl
theorem mt4 : MTl[4]? = some m_4 := rfl
theorem mt5 : MTl[5]? = some m_5 := rfl
theorem mt6 : MTl[6]? = some m_6 := rfl
theorem mt7 : MTl[7]? = some m_7 := rfl
theorem mt8 : MTl[8]? = some m_8 := rfl
theorem mt9 : MTl[9]? = some m_9 := rfl
theorem mt10 : MTl[10]? = some m_10 := rfl
theorem mt11 : MTl[11]? = some m_11 := rfl
theorem mt12 : MTl[12]? = some m_12 := rfl
theorem mt13 : MTl[13]? = some m_13 := rfl
theorem mt14 : MTl[14]? = some m_14 := rfl
theorem mt15 : MTl[15]? = some m_15 := rfl
theorem mt16 : MTl[16]? = some m_16 := rfl
theorem mt17 : MTl[17]? = some m_17 := rfl
theorem mt18 : MTl[18]? = some m_18 := rfl
theorem mt19 : MTl[19]? = some m_19 := rfl
theorem mt20 : MTl[20]? = some m_20 := rfl
theorem mt21 : MTl[21]? = some m_21 := rfl
theorem mt22 : MTl[22]? = some m_22 := rfl
theorem mt23 : MTl[23]? = some m_23 := rfl
theorem mt24 : MTl[24]? = some m_24 := rfl
theorem mt25 : MTl[25]? = some m_25 := rfl
theorem mt26 : MTl[26]? = some m_26 := rfl
theorem mt27 : MTl[27]? = some m_27 := rfl
theorem mt28 : MTl[28]? = some m_28 := rfl
theorem mt29 : MTl[29]? = some m_29 := rfl
theorem mt30 : MTl[30]? = some m_30 := rfl
theorem mt31 : MTl[31]? = some m_31 := rfl
theorem mt32 : MTl[32]? = some m_32 := rfl
theorem mt33 : MTl[33]? = some m_33 := rfl
theorem mt34 : MTl[34]? = some m_34 := rfl
theorem mt35 : MTl[35]? = some m_35 := rfl
theorem mt36 : MTl[36]? = some m_36 := rfl
theorem mt37 : MTl[37]? = some m_37 := rfl
theorem mt38 : MTl[38]? = some m_38 := rfl
theorem mt39 : MTl[39]? = some m_39 := rfl
theorem mt40 : MTl[40]? = some m_40 := rfl
theorem mt41 : MTl[41]? = some m_41 := rfl
theorem mt42 : MTl[42]? = some m_42 := rfl
theorem mt43 : MTl[43]? = some m_43 := rfl
theorem mt44 : MTl[44]? = some m_44 := rfl
theorem mt45 : MTl[45]? = some m_45 := rfl
theorem mt46 : MTl[46]? = some m_46 := rfl
theorem mt47 : MTl[47]? = some m_47 := rfl
theorem mt48 : MTl[48]? = some m_48 := rfl
theorem mt49 : MTl[49]? = some m_49 := rfl
theorem mt50 : MTl[50]? = some m_50 := rfl
theorem mt51 : MTl[51]? = some m_51 := rfl
theorem mt52 : MTl[52]? = some m_52 := rfl
theorem mt53 : MTl[53]? = some m_53 := rfl
theorem mt54 : MTl[54]? = some m_54 := rfl
theorem mt55 : MTl[55]? = some m_55 := rfl
theorem mt56 : MTl[56]? = some m_56 := rfl
theorem mt57 : MTl[57]? = some m_57 := rfl
theorem mt58 : MTl[58]? = some m_58 := rfl
theorem mt59 : MTl[59]? = some m_59 := rfl
theorem mt60 : MTl[60]? = some m_60 := rfl
theorem mt61 : MTl[61]? = some m_61 := rfl
theorem mt62 : MTl[62]? = some m_62 := rfl
theorem mt63 : MTl[63]? = some m_63 := rfl
theorem mt64 : MTl[64]? = some m_64 := rfl
theorem mt65 : MTl[65]? = some m_65 := rfl
theorem mt66 : MTl[66]? = some m_66 := rfl
theorem mt67 : MTl[67]? = some m_67 := rfl
theorem mt68 : MTl[68]? = some m_68 := rfl
theorem mt69 : MTl[69]? = some m_69 := rfl
theorem mt70 : MTl[70]? = some m_70 := rfl
theorem mt71 : MTl[71]? = some m_71 := rfl
theorem mt72 : MTl[72]? = some m_72 := rfl
theorem mt73 : MTl[73]? = some m_73 := rfl
theorem mt74 : MTl[74]? = some m_74 := rfl
theorem mt75 : MTl[75]? = some m_75 := rfl
theorem mt76 : MTl[76]? = some m_76 := rfl
theorem mt77 : MTl[77]? = some m_77 := rfl
theorem mt78 : MTl[78]? = some m_78 := rfl
theorem mt79 : MTl[79]? = some m_79 := rfl
theorem mt80 : MTl[80]? = some m_80 := rfl
theorem mt81 : MTl[81]? = some m_81 := rfl
theorem mt82 : MTl[82]? = some m_82 := rfl
theorem mt83 : MTl[83]? = some m_83 := rfl
theorem mt84 : MTl[84]? = some m_84 := rfl
theorem mt85 : MTl[85]? = some m_85 := rfl
theorem mt86 : MTl[86]? = some m_86 := rfl
theorem mt87 : MTl[87]? = some m_87 := rfl
theorem mt88 : MTl[88]? = some m_88 := rfl
theorem mt89 : MTl[89]? = some m_89 := rfl
theorem mt90 : MTl[90]? = some m_90 := rfl
theorem mt91 : MTl[91]? = some m_91 := rfl
theorem mt92 : MTl[92]? = some m_92 := rfl
theorem mt93 : MTl[93]? = some m_93 := rfl
theorem mt94 : MTl[94]? = some m_94 := rfl
theorem mt95 : MTl[95]? = some m_95 := rfl
theorem mt96 : MTl[96]? = some m_96 := rfl
theorem mt97 : MTl[97]? = some m_97 := rfl
theorem mt98 : MTl[98]? = some m_98 := rfl
theorem mt99 : MTl[99]? = some m_99 := rfl
theorem mt100 : MTl[100]? = some m_100 := rfl
theorem mt101 : MTl[101]? = some m_101 := rfl
theorem mt102 : MTl[102]? = some m_102 := rfl
theorem mt103 : MTl[103]? = some m_103 := rfl
theorem mt104 : MTl[104]? = some m_104 := rfl
theorem mt105 : MTl[105]? = some m_105 := rfl
theorem mt106 : MTl[106]? = some m_106 := rfl
theorem mt107 : MTl[107]? = some m_107 := rfl
theorem mt108 : MTl[108]? = some m_108 := rfl
theorem mt109 : MTl[109]? = some m_109 := rfl
theorem mt110 : MTl[110]? = some m_110 := rfl
theorem mt111 : MTl[111]? = some m_111 := rfl
theorem mt112 : MTl[112]? = some m_112 := rfl
theorem mt113 : MTl[113]? = some m_113 := rfl
theorem mt114 : MTl[114]? = some m_114 := rfl
theorem mt115 : MTl[115]? = some m_115 := rfl
theorem mt116 : MTl[116]? = some m_116 := rfl
theorem mt117 : MTl[117]? = some m_117 := rfl
theorem mt118 : MTl[118]? = some m_118 := rfl
theorem mt119 : MTl[119]? = some m_119 := rfl
theorem mt120 : MTl[120]? = some m_120 := rfl
theorem mt121 : MTl[121]? = some m_121 := rfl
theorem mt122 : MTl[122]? = some m_122 := rfl
theorem mt123 : MTl[123]? = some m_123 := rfl
theorem mt124 : MTl[124]? = some m_124 := rfl
theorem mt125 : MTl[125]? = some m_125 := rfl
theorem mt126 : MTl[126]? = some m_126 := rfl
theorem mt127 : MTl[127]? = some m_127 := rfl
theorem mt128 : MTl[128]? = some m_128 := rfl
theorem mt129 : MTl[129]? = some m_129 := rfl
theorem mt130 : MTl[130]? = some m_130 := rfl
theorem mt131 : MTl[131]? = some m_131 := rfl
theorem mt132 : MTl[132]? = some m_132 := rfl
theorem mt133 : MTl[133]? = some m_133 := rfl
theorem mt134 : MTl[134]? = some m_134 := rfl
theorem mt135 : MTl[135]? = some m_135 := rfl
theorem mt136 : MTl[136]? = some m_136 := rfl
theorem mt137 : MTl[137]? = some m_137 := rfl
theorem mt138 : MTl[138]? = some m_138 := rfl
theorem mt139 : MTl[139]? = some m_139 := rfl
theorem mt140 : MTl[140]? = some m_140 := rfl
theorem mt141 : MTl[141]? = some m_141 := rfl
theorem mt142 : MTl[142]? = some m_142 := rfl
theorem mt143 : MTl[143]? = some m_143 := rfl
theorem mt144 : MTl[144]? = some m_144 := rfl
theorem mt145 : MTl[145]? = some m_145 := rfl
theorem mt146 : MTl[146]? = some m_146 := rfl
theorem mt147 : MTl[147]? = some m_147 := rfl
theorem mt148 : MTl[148]? = some m_148 := rfl
theorem mt149 : MTl[149]? = some m_149 := rfl
theorem mt150 : MTl[150]? = some m_150 := rfl
theorem mt151 : MTl[151]? = some m_151 := rfl
theorem mt152 : MTl[152]? = some m_152 := rfl
theorem mt153 : MTl[153]? = some m_153 := rfl
theorem mt154 : MTl[154]? = some m_154 := rfl
theorem mt155 : MTl[155]? = some m_155 := rfl
theorem mt156 : MTl[156]? = some m_156 := rfl
theorem mt157 : MTl[157]? = some m_157 := rfl
theorem mt158 : MTl[158]? = some m_158 := rfl
theorem mt159 : MTl[159]? = some m_159 := rfl
theorem mt160 : MTl[160]? = some m_160 := rfl
theorem mt161 : MTl[161]? = some m_161 := rfl
theorem mt162 : MTl[162]? = some m_162 := rfl
theorem mt163 : MTl[163]? = some m_163 := rfl
theorem mt164 : MTl[164]? = some m_164 := rfl
theorem mt165 : MTl[165]? = some m_165 := rfl
theorem mt166 : MTl[166]? = some m_166 := rfl
theorem mt167 : MTl[167]? = some m_167 := rfl
theorem mt168 : MTl[168]? = some m_168 := rfl
theorem mt169 : MTl[169]? = some m_169 := rfl
theorem mt170 : MTl[170]? = some m_170 := rfl
theorem mt171 : MTl[171]? = some m_171 := rfl
theorem mt172 : MTl[172]? = some m_172 := rfl
theorem mt173 : MTl[173]? = some m_173 := rfl
theorem mt174 : MTl[174]? = some m_174 := rfl
theorem mt175 : MTl[175]? = some m_175 := rfl
theorem mt176 : MTl[176]? = some m_176 := rfl
theorem mt177 : MTl[177]? = some m_177 := rfl
theorem mt178 : MTl[178]? = some m_178 := rfl
theorem mt179 : MTl[179]? = some m_179 := rfl
theorem mt180 : MTl[180]? = some m_180 := rfl
theorem mt181 : MTl[181]? = some m_181 := rfl
theorem mt182 : MTl[182]? = some m_182 := rfl
theorem mt183 : MTl[183]? = some m_183 := rfl
theorem mt184 : MTl[184]? = some m_184 := rfl
theorem mt185 : MTl[185]? = some m_185 := rfl
theorem mt186 : MTl[186]? = some m_186 := rfl
theorem mt187 : MTl[187]? = some m_187 := rfl
theorem mt188 : MTl[188]? = some m_188 := rfl
theorem mt189 : MTl[189]? = some m_189 := rfl
theorem mt190 : MTl[190]? = some m_190 := rfl
theorem mt191 : MTl[191]? = some m_191 := rfl
theorem kd0 : kd KKl 153 0 = some (7, 8) := by decide +kernel
theorem kd1 : kd KKl 153 1 = some (0, 2) := by decide +kernel
theorem kd2 : kd KKl 153 2 = some (20, 200) := by decide +kernel
theorem kd3 : kd KKl 153 3 = some (4, 4) := by decide +kernel
theorem kd4 : kd KKl 153 4 = some (6, 4) := by decide +kernel
theorem kd5 : kd KKl 153 5 = some (20, 9) := by decide +kernel
theorem kd6 : kd KKl 153 6 = some (20, 9) := by decide +kernel
theorem kd7 : kd KKl 153 7 = some (20, 9) := by decide +kernel
theorem kd8 : kd KKl 153 8 = some (2, 5) := by decide +kernel
theorem kd9 : kd KKl 153 9 = some (21, 6) := by decide +kernel
theorem kd10 : kd KKl 153 10 = some (1, 6) := by decide +kernel
theorem kd11 : kd KKl 153 11 = some (1, 6) := by decide +kernel
theorem kd12 : kd KKl 153 12 = some (1, 6) := by decide +kernel
theorem kd13 : kd KKl 153 13 = some (1, 6) := by decide +kernel
theorem kd14 : kd KKl 153 14 = some (1, 6) := by decide +kernel
theorem kd15 : kd KKl 153 15 = some (1, 6) := by decide +kernel
theorem kd16 : kd KKl 153 16 = some (1, 6) := by decide +kernel
theorem kd17 : kd KKl 153 17 = some (6, 4) := by decide +kernel
theorem kd18 : kd KKl 153 18 = some (20, 9) := by decide +kernel
theorem kd19 : kd KKl 153 19 = some (20, 9) := by decide +kernel
theorem kd20 : kd KKl 153 20 = some (20, 9) := by decide +kernel
theorem kd21 : kd KKl 153 21 = some (2, 5) := by decide +kernel
theorem kd22 : kd KKl 153 22 = some (21, 6) := by decide +kernel
theorem kd23 : kd KKl 153 23 = some (1, 6) := by decide +kernel
theorem kd24 : kd KKl 153 24 = some (1, 6) := by decide +kernel
theorem kd25 : kd KKl 153 25 = some (1, 6) := by decide +kernel
theorem kd26 : kd KKl 153 26 = some (1, 6) := by decide +kernel
theorem kd27 : kd KKl 153 27 = some (1, 6) := by decide +kernel
theorem kd28 : kd KKl 153 28 = some (1, 6) := by decide +kernel
theorem kd29 : kd KKl 153 29 = some (1, 6) := by decide +kernel
theorem kd30 : kd KKl 153 30 = some (2, 5) := by decide +kernel
theorem kd31 : kd KKl 153 31 = some (21, 6) := by decide +kernel
theorem kd32 : kd KKl 153 32 = some (1, 6) := by decide +kernel
theorem kd33 : kd KKl 153 33 = some (1, 6) := by decide +kernel
theorem kd34 : kd KKl 153 34 = some (1, 6) := by decide +kernel
theorem kd35 : kd KKl 153 35 = some (1, 6) := by decide +kernel
theorem kd36 : kd KKl 153 36 = some (1, 6) := by decide +kernel
theorem kd37 : kd KKl 153 37 = some (1, 6) := by decide +kernel
theorem kd38 : kd KKl 153 38 = some (1, 6) := by decide +kernel
theorem kd39 : kd KKl 153 39 = some (3, 2) := by decide +kernel
theorem kd40 : kd KKl 153 40 = some (22, 8) := by decide +kernel
theorem kd41 : kd KKl 153 41 = some (2, 5) := by decide +kernel
theorem kd42 : kd KKl 153 42 = some (21, 6) := by decide +kernel
theorem kd43 : kd KKl 153 43 = some (1, 6) := by decide +kernel
theorem kd44 : kd KKl 153 44 = some (1, 6) := by decide +kernel
theorem kd45 : kd KKl 153 45 = some (1, 6) := by decide +kernel
theorem kd46 : kd KKl 153 46 = some (1, 6) := by decide +kernel
theorem kd47 : kd KKl 153 47 = some (1, 6) := by decide +kernel
theorem kd48 : kd KKl 153 48 = some (1, 6) := by decide +kernel
theorem kd49 : kd KKl 153 49 = some (1, 6) := by decide +kernel
theorem kd50 : kd KKl 153 50 = some (2, 5) := by decide +kernel
theorem kd51 : kd KKl 153 51 = some (21, 6) := by decide +kernel
theorem kd52 : kd KKl 153 52 = some (1, 6) := by decide +kernel
theorem kd53 : kd KKl 153 53 = some (1, 6) := by decide +kernel
theorem kd54 : kd KKl 153 54 = some (1, 6) := by decide +kernel
theorem kd55 : kd KKl 153 55 = some (1, 6) := by decide +kernel
theorem kd56 : kd KKl 153 56 = some (1, 6) := by decide +kernel
theorem kd57 : kd KKl 153 57 = some (1, 6) := by decide +kernel
theorem kd58 : kd KKl 153 58 = some (1, 6) := by decide +kernel
theorem kd59 : kd KKl 153 59 = some (2, 5) := by decide +kernel
theorem kd60 : kd KKl 153 60 = some (21, 6) := by decide +kernel
theorem kd61 : kd KKl 153 61 = some (1, 6) := by decide +kernel
theorem kd62 : kd KKl 153 62 = some (1, 6) := by decide +kernel
theorem kd63 : kd KKl 153 63 = some (1, 6) := by decide +kernel
theorem kd64 : kd KKl 153 64 = some (1, 6) := by decide +kernel
theorem kd65 : kd KKl 153 65 = some (1, 6) := by decide +kernel
theorem kd66 : kd KKl 153 66 = some (1, 6) := by decide +kernel
theorem kd67 : kd KKl 153 67 = some (1, 6) := by decide +kernel
theorem kd68 : kd KKl 153 68 = some (2, 5) := by decide +kernel
theorem kd69 : kd KKl 153 69 = some (21, 6) := by decide +kernel
theorem kd70 : kd KKl 153 70 = some (1, 6) := by decide +kernel
theorem kd71 : kd KKl 153 71 = some (1, 6) := by decide +kernel
theorem kd72 : kd KKl 153 72 = some (1, 6) := by decide +kernel
theorem kd73 : kd KKl 153 73 = some (1, 6) := by decide +kernel
theorem kd74 : kd KKl 153 74 = some (1, 6) := by decide +kernel
theorem kd75 : kd KKl 153 75 = some (1, 6) := by decide +kernel
theorem kd76 : kd KKl 153 76 = some (1, 6) := by decide +kernel
theorem kd77 : kd KKl 153 77 = some (2, 5) := by decide +kernel
theorem kd78 : kd KKl 153 78 = some (21, 6) := by decide +kernel
theorem kd79 : kd KKl 153 79 = some (1, 6) := by decide +kernel
theorem kd80 : kd KKl 153 80 = some (1, 6) := by decide +kernel
theorem kd81 : kd KKl 153 81 = some (1, 6) := by decide +kernel
theorem kd82 : kd KKl 153 82 = some (1, 6) := by decide +kernel
theorem kd83 : kd KKl 153 83 = some (1, 6) := by decide +kernel
theorem kd84 : kd KKl 153 84 = some (1, 6) := by decide +kernel
theorem kd85 : kd KKl 153 85 = some (1, 6) := by decide +kernel
theorem kd86 : kd KKl 153 86 = some (2, 5) := by decide +kernel
theorem kd87 : kd KKl 153 87 = some (21, 6) := by decide +kernel
theorem kd88 : kd KKl 153 88 = some (1, 6) := by decide +kernel
theorem kd89 : kd KKl 153 89 = some (1, 6) := by decide +kernel
theorem kd90 : kd KKl 153 90 = some (1, 6) := by decide +kernel
theorem kd91 : kd KKl 153 91 = some (1, 6) := by decide +kernel
theorem kd92 : kd KKl 153 92 = some (1, 6) := by decide +kernel
theorem kd93 : kd KKl 153 93 = some (1, 6) := by decide +kernel
theorem kd94 : kd KKl 153 94 = some (1, 6) := by decide +kernel
theorem kd95 : kd KKl 153 95 = some (2, 5) := by decide +kernel
theorem kd96 : kd KKl 153 96 = some (21, 6) := by decide +kernel
theorem kd97 : kd KKl 153 97 = some (1, 6) := by decide +kernel
theorem kd98 : kd KKl 153 98 = some (1, 6) := by decide +kernel
theorem kd99 : kd KKl 153 99 = some (1, 6) := by decide +kernel
theorem kd100 : kd KKl 153 100 = some (1, 6) := by decide +kernel
theorem kd101 : kd KKl 153 101 = some (1, 6) := by decide +kernel
theorem kd102 : kd KKl 153 102 = some (1, 6) := by decide +kernel
theorem kd103 : kd KKl 153 103 = some (1, 6) := by decide +kernel
theorem kd104 : kd KKl 153 104 = some (2, 5) := by decide +kernel
theorem kd105 : kd KKl 153 105 = some (21, 6) := by decide +kernel
theorem kd106 : kd KKl 153 106 = some (1, 6) := by decide +kernel
theorem kd107 : kd KKl 153 107 = some (1, 6) := by decide +kernel
theorem kd108 : kd KKl 153 108 = some (1, 6) := by decide +kernel
theorem kd109 : kd KKl 153 109 = some (1, 6) := by decide +kernel
theorem kd110 : kd KKl 153 110 = some (1, 6) := by decide +kernel
theorem kd111 : kd KKl 153 111 = some (1, 6) := by decide +kernel
theorem kd112 : kd KKl 153 112 = some (1, 6) := by decide +kernel
theorem kd113 : kd KKl 153 113 = some (3, 2) := by decide +kernel
theorem kd114 : kd KKl 153 114 = some (22, 2) := by decide +kernel
theorem kd115 : kd KKl 153 115 = some (2, 5) := by decide +kernel
theorem kd116 : kd KKl 153 116 = some (21, 6) := by decide +kernel
theorem kd117 : kd KKl 153 117 = some (1, 6) := by decide +kernel
theorem kd118 : kd KKl 153 118 = some (1, 6) := by decide +kernel
theorem kd119 : kd KKl 153 119 = some (1, 6) := by decide +kernel
theorem kd120 : kd KKl 153 120 = some (1, 6) := by decide +kernel
theorem kd121 : kd KKl 153 121 = some (1, 6) := by decide +kernel
theorem kd122 : kd KKl 153 122 = some (1, 6) := by decide +kernel
theorem kd123 : kd KKl 153 123 = some (1, 6) := by decide +kernel
theorem kd124 : kd KKl 153 124 = some (2, 5) := by decide +kernel
theorem kd125 : kd KKl 153 125 = some (21, 6) := by decide +kernel
theorem kd126 : kd KKl 153 126 = some (1, 6) := by decide +kernel
theorem kd127 : kd KKl 153 127 = some (1, 6) := by decide +kernel
theorem kd128 : kd KKl 153 128 = some (1, 6) := by decide +kernel
theorem kd129 : kd KKl 153 129 = some (1, 6) := by decide +kernel
theorem kd130 : kd KKl 153 130 = some (1, 6) := by decide +kernel
theorem kd131 : kd KKl 153 131 = some (1, 6) := by decide +kernel
theorem kd132 : kd KKl 153 132 = some (1, 6) := by decide +kernel
theorem kd133 : kd KKl 153 133 = some (5, 4) := by decide +kernel
theorem kd134 : kd KKl 153 134 = some (20, 6) := by decide +kernel
theorem kd135 : kd KKl 153 135 = some (20, 6) := by decide +kernel
theorem kd136 : kd KKl 153 136 = some (20, 6) := by decide +kernel
theorem kd137 : kd KKl 153 137 = some (8, 25) := by decide +kernel
theorem kd138 : kd KKl 153 138 = some (20, 200) := by decide +kernel
theorem kd139 : kd KKl 153 139 = some (20, 9) := by decide +kernel
theorem kd140 : kd KKl 153 140 = some (20, 9) := by decide +kernel
theorem kd141 : kd KKl 153 141 = some (20, 9) := by decide +kernel
theorem kd142 : kd KKl 153 142 = some (20, 6) := by decide +kernel
theorem kd143 : kd KKl 153 143 = some (20, 6) := by decide +kernel
theorem kd144 : kd KKl 153 144 = some (20, 6) := by decide +kernel
theorem kd145 : kd KKl 153 145 = some (20, 9) := by decide +kernel
theorem kd146 : kd KKl 153 146 = some (20, 9) := by decide +kernel
theorem kd147 : kd KKl 153 147 = some (20, 9) := by decide +kernel
theorem kd148 : kd KKl 153 148 = some (20, 39) := by decide +kernel
theorem kd149 : kd KKl 153 149 = some (20, 39) := by decide +kernel
theorem kd150 : kd KKl 153 150 = some (20, 312) := by decide +kernel
theorem kd151 : kd KKl 153 151 = some (20, 18) := by decide +kernel
theorem kd152 : kd KKl 153 152 = some (20, 78) := by decide +kernel
end
section
/-! a row an instruction -/
theorem k0_0 : icode MCl 0 0 = some (.aload_n 0, 1, 0, 0, 0) := by decide +kernel
theorem k0_1 : icode MCl 0 1 = some (.invokespecial 3, 4, 9999, 69, 0) := by decide +kernel
theorem k0_4 : icode MCl 0 4 = some (.aload_n 0, 5, 0, 0, 0) := by decide +kernel
theorem k0_5 : icode MCl 0 5 = some (.sipush 200, 8, 0, 0, 200) := by decide +kernel
theorem k0_8 : icode MCl 0 8 = some (.newarray .int, 10, 0, 0, 0) := by decide +kernel
theorem k0_10 : icode MCl 0 10 = some (.putfield 9, 13, 0, 70, 1) := by decide +kernel
theorem k0_13 : icode MCl 0 13 = some (.return_, 14, 0, 0, 0) := by decide +kernel
theorem k1_0 : icode MCl 1 0 = some (.aload_n 0, 1, 0, 0, 0) := by decide +kernel
theorem k1_1 : icode MCl 1 1 = some (.invokespecial 3, 4, 9999, 89, 0) := by decide +kernel
theorem k1_4 : icode MCl 1 4 = some (.aload_n 0, 5, 0, 0, 0) := by decide +kernel
theorem k1_5 : icode MCl 1 5 = some (.bipush 9, 7, 0, 0, 9) := by decide +kernel
theorem k1_7 : icode MCl 1 7 = some (.newarray .int, 9, 0, 0, 0) := by decide +kernel
theorem k1_9 : icode MCl 1 9 = some (.putfield 9, 12, 600, 90, 1) := by decide +kernel
theorem k1_12 : icode MCl 1 12 = some (.aload_n 0, 13, 0, 0, 0) := by decide +kernel
theorem k1_13 : icode MCl 1 13 = some (.bipush 9, 15, 0, 0, 9) := by decide +kernel
theorem k1_15 : icode MCl 1 15 = some (.newarray .int, 17, 0, 0, 0) := by decide +kernel
theorem k1_17 : icode MCl 1 17 = some (.putfield 15, 20, 601, 91, 1) := by decide +kernel
theorem k1_20 : icode MCl 1 20 = some (.aload_n 0, 21, 0, 0, 0) := by decide +kernel
theorem k1_21 : icode MCl 1 21 = some (.bipush 9, 23, 0, 0, 9) := by decide +kernel
theorem k1_23 : icode MCl 1 23 = some (.newarray .int, 25, 0, 0, 0) := by decide +kernel
theorem k1_25 : icode MCl 1 25 = some (.putfield 18, 28, 602, 92, 1) := by decide +kernel
theorem k1_28 : icode MCl 1 28 = some (.return_, 29, 0, 0, 0) := by decide +kernel
theorem k2_0 : icode MCl 2 0 = some (.aload_n 0, 1, 0, 0, 0) := by decide +kernel
theorem k2_1 : icode MCl 2 1 = some (.invokespecial 3, 4, 9999, 115, 0) := by decide +kernel
theorem k2_4 : icode MCl 2 4 = some (.return_, 5, 0, 0, 0) := by decide +kernel
theorem k3_0 : icode MCl 3 0 = some (.aload_n 0, 1, 0, 0, 0) := by decide +kernel
theorem k3_1 : icode MCl 3 1 = some (.invokespecial 3, 4, 9999, 108, 0) := by decide +kernel
theorem k3_4 : icode MCl 3 4 = some (.aload_n 0, 5, 0, 0, 0) := by decide +kernel
theorem k3_5 : icode MCl 3 5 = some (.bipush 6, 7, 0, 0, 6) := by decide +kernel
theorem k3_7 : icode MCl 3 7 = some (.anewarray 9, 10, 21, 109, 0) := by decide +kernel
theorem k3_10 : icode MCl 3 10 = some (.putfield 11, 13, 200, 144, 1) := by decide +kernel
theorem k3_13 : icode MCl 3 13 = some (.aload_n 0, 14, 0, 0, 0) := by decide +kernel
theorem k3_14 : icode MCl 3 14 = some (.new 9, 17, 1, 109, 0) := by decide +kernel
theorem k3_17 : icode MCl 3 17 = some (.dup, 18, 0, 0, 0) := by decide +kernel
theorem k3_18 : icode MCl 3 18 = some (.invokespecial 17, 21, 2, 112, 1) := by decide +kernel
theorem k3_21 : icode MCl 3 21 = some (.putfield 18, 24, 201, 145, 1) := by decide +kernel
theorem k3_24 : icode MCl 3 24 = some (.iconst 0, 25, 0, 0, 0) := by decide +kernel
theorem k3_25 : icode MCl 3 25 = some (.istore_n 1, 26, 0, 0, 0) := by decide +kernel
theorem k3_26 : icode MCl 3 26 = some (.iload_n 1, 27, 0, 0, 0) := by decide +kernel
theorem k3_27 : icode MCl 3 27 = some (.aload_n 0, 28, 0, 0, 0) := by decide +kernel
theorem k3_28 : icode MCl 3 28 = some (.getfield 11, 31, 200, 144, 1) := by decide +kernel
theorem k3_31 : icode MCl 3 31 = some (.arraylength, 32, 0, 0, 0) := by decide +kernel
theorem k3_32 : icode MCl 3 32 = some (.if_icmp .ge 22, 35, 54, 0, 0) := by decide +kernel
theorem k3_35 : icode MCl 3 35 = some (.aload_n 0, 36, 0, 0, 0) := by decide +kernel
theorem k3_36 : icode MCl 3 36 = some (.getfield 11, 39, 200, 144, 1) := by decide +kernel
theorem k3_39 : icode MCl 3 39 = some (.iload_n 1, 40, 0, 0, 0) := by decide +kernel
theorem k3_40 : icode MCl 3 40 = some (.new 9, 43, 1, 109, 0) := by decide +kernel
theorem k3_43 : icode MCl 3 43 = some (.dup, 44, 0, 0, 0) := by decide +kernel
theorem k3_44 : icode MCl 3 44 = some (.invokespecial 17, 47, 2, 112, 1) := by decide +kernel
theorem k3_47 : icode MCl 3 47 = some (.aastore, 48, 0, 0, 0) := by decide +kernel
theorem k3_48 : icode MCl 3 48 = some (.iinc 1 1, 51, 0, 0, 1) := by decide +kernel
theorem k3_51 : icode MCl 3 51 = some (.goto (-25), 54, 26, 0, 0) := by decide +kernel
theorem k3_54 : icode MCl 3 54 = some (.return_, 55, 0, 0, 0) := by decide +kernel
theorem k4_0 : icode MCl 4 0 = some (.aload_n 0, 1, 0, 0, 0) := by decide +kernel
theorem k4_1 : icode MCl 4 1 = some (.invokespecial 3, 4, 9999, 83, 0) := by decide +kernel
theorem k4_4 : icode MCl 4 4 = some (.aload_n 0, 5, 0, 0, 0) := by decide +kernel
theorem k4_5 : icode MCl 4 5 = some (.new 9, 8, 6, 84, 0) := by decide +kernel
theorem k4_8 : icode MCl 4 8 = some (.dup, 9, 0, 0, 0) := by decide +kernel
theorem k4_9 : icode MCl 4 9 = some (.invokespecial 11, 12, 1, 86, 1) := by decide +kernel
theorem k4_12 : icode MCl 4 12 = some (.putfield 12, 15, 400, 160, 1) := by decide +kernel
theorem k4_15 : icode MCl 4 15 = some (.aload_n 0, 16, 0, 0, 0) := by decide +kernel
theorem k4_16 : icode MCl 4 16 = some (.new 18, 19, 2, 103, 0) := by decide +kernel
theorem k4_19 : icode MCl 4 19 = some (.dup, 20, 0, 0, 0) := by decide +kernel
theorem k4_20 : icode MCl 4 20 = some (.invokespecial 20, 23, 3, 105, 0) := by decide +kernel
theorem k4_23 : icode MCl 4 23 = some (.putfield 21, 26, 401, 162, 1) := by decide +kernel
theorem k4_26 : icode MCl 4 26 = some (.aload_n 0, 27, 0, 0, 0) := by decide +kernel
theorem k4_27 : icode MCl 4 27 = some (.aload_n 1, 28, 0, 0, 0) := by decide +kernel
theorem k4_28 : icode MCl 4 28 = some (.putfield 25, 31, 402, 164, 1) := by decide +kernel
theorem k4_31 : icode MCl 4 31 = some (.return_, 32, 0, 0, 0) := by decide +kernel
theorem k5_0 : icode MCl 5 0 = some (.iload_n 0, 1, 0, 0, 0) := by decide +kernel
theorem k5_1 : icode MCl 5 1 = some (.iload_n 1, 2, 0, 0, 0) := by decide +kernel
theorem k5_2 : icode MCl 5 2 = some (.if_icmp .lt 7, 5, 9, 0, 0) := by decide +kernel
theorem k5_5 : icode MCl 5 5 = some (.iload_n 0, 6, 0, 0, 0) := by decide +kernel
theorem k5_6 : icode MCl 5 6 = some (.goto 4, 9, 10, 0, 0) := by decide +kernel
theorem k5_9 : icode MCl 5 9 = some (.iload_n 1, 10, 0, 0, 0) := by decide +kernel
theorem k5_10 : icode MCl 5 10 = some (.ireturn, 11, 0, 0, 0) := by decide +kernel
theorem k6_0 : icode MCl 6 0 = some (.aload_n 0, 1, 0, 0, 0) := by decide +kernel
theorem k6_1 : icode MCl 6 1 = some (.invokespecial 1, 4, 9999, 184, 0) := by decide +kernel
theorem k6_4 : icode MCl 6 4 = some (.aload_n 0, 5, 0, 0, 0) := by decide +kernel
theorem k6_5 : icode MCl 6 5 = some (.iload_n 1, 6, 0, 0, 0) := by decide +kernel
theorem k6_6 : icode MCl 6 6 = some (.iconst 0, 7, 0, 0, 0) := by decide +kernel
theorem k6_7 : icode MCl 6 7 = some (.invokestatic 7, 10, 9997, 185, 0) := by decide +kernel
theorem k6_10 : icode MCl 6 10 = some (.anewarray 13, 13, 22, 188, 0) := by decide +kernel
theorem k6_13 : icode MCl 6 13 = some (.putfield 15, 16, 300, 191, 1) := by decide +kernel
theorem k6_16 : icode MCl 6 16 = some (.iconst 0, 17, 0, 0, 0) := by decide +kernel
theorem k6_17 : icode MCl 6 17 = some (.istore_n 2, 18, 0, 0, 0) := by decide +kernel
theorem k6_18 : icode MCl 6 18 = some (.iload_n 2, 19, 0, 0, 0) := by decide +kernel
theorem k6_19 : icode MCl 6 19 = some (.aload_n 0, 20, 0, 0, 0) := by decide +kernel
theorem k6_20 : icode MCl 6 20 = some (.getfield 15, 23, 300, 191, 1) := by decide +kernel
theorem k6_23 : icode MCl 6 23 = some (.arraylength, 24, 0, 0, 0) := by decide +kernel
theorem k6_24 : icode MCl 6 24 = some (.if_icmp .ge 22, 27, 46, 0, 0) := by decide +kernel
theorem k6_27 : icode MCl 6 27 = some (.aload_n 0, 28, 0, 0, 0) := by decide +kernel
theorem k6_28 : icode MCl 6 28 = some (.getfield 15, 31, 300, 191, 1) := by decide +kernel
theorem k6_31 : icode MCl 6 31 = some (.iload_n 2, 32, 0, 0, 0) := by decide +kernel
theorem k6_32 : icode MCl 6 32 = some (.new 13, 35, 2, 188, 0) := by decide +kernel
theorem k6_35 : icode MCl 6 35 = some (.dup, 36, 0, 0, 0) := by decide +kernel
theorem k6_36 : icode MCl 6 36 = some (.invokespecial 21, 39, 3, 190, 0) := by decide +kernel
theorem k6_39 : icode MCl 6 39 = some (.aastore, 40, 0, 0, 0) := by decide +kernel
theorem k6_40 : icode MCl 6 40 = some (.iinc 2 1, 43, 0, 0, 1) := by decide +kernel
theorem k6_43 : icode MCl 6 43 = some (.goto (-25), 46, 18, 0, 0) := by decide +kernel
theorem k6_46 : icode MCl 6 46 = some (.return_, 47, 0, 0, 0) := by decide +kernel
theorem k7_0 : icode MCl 7 0 = some (.aload_n 0, 1, 0, 0, 0) := by decide +kernel
theorem k7_1 : icode MCl 7 1 = some (.invokespecial 3, 4, 9999, 203, 0) := by decide +kernel
theorem k7_4 : icode MCl 7 4 = some (.aload_n 0, 5, 0, 0, 0) := by decide +kernel
theorem k7_5 : icode MCl 7 5 = some (.bipush 6, 7, 0, 0, 6) := by decide +kernel
theorem k7_7 : icode MCl 7 7 = some (.newarray .int, 9, 0, 0, 0) := by decide +kernel
theorem k7_9 : icode MCl 7 9 = some (.putfield 9, 12, 500, 204, 1) := by decide +kernel
theorem k7_12 : icode MCl 7 12 = some (.aload_n 0, 13, 0, 0, 0) := by decide +kernel
theorem k7_13 : icode MCl 7 13 = some (.bipush 6, 15, 0, 0, 6) := by decide +kernel
theorem k7_15 : icode MCl 7 15 = some (.newarray .int, 17, 0, 0, 0) := by decide +kernel
theorem k7_17 : icode MCl 7 17 = some (.putfield 15, 20, 501, 205, 1) := by decide +kernel
theorem k7_20 : icode MCl 7 20 = some (.aload_n 0, 21, 0, 0, 0) := by decide +kernel
theorem k7_21 : icode MCl 7 21 = some (.bipush 6, 23, 0, 0, 6) := by decide +kernel
theorem k7_23 : icode MCl 7 23 = some (.newarray .int, 25, 0, 0, 0) := by decide +kernel
theorem k7_25 : icode MCl 7 25 = some (.putfield 18, 28, 502, 206, 1) := by decide +kernel
theorem k7_28 : icode MCl 7 28 = some (.return_, 29, 0, 0, 0) := by decide +kernel
theorem k8_0 : icode MCl 8 0 = some (.getstatic 38, 3, 0, 226, 0) := by decide +kernel
theorem k8_3 : icode MCl 8 3 = some (.ifCond .eq 10, 6, 13, 0, 0) := by decide +kernel
theorem k8_6 : icode MCl 8 6 = some (.aload_n 0, 7, 0, 0, 0) := by decide +kernel
theorem k8_7 : icode MCl 8 7 = some (.getfield 15, 10, 9001, 1088, 0) := by decide +kernel
theorem k8_10 : icode MCl 8 10 = some (.goto 4, 13, 14, 0, 0) := by decide +kernel
theorem k8_13 : icode MCl 8 13 = some (.iconst 1, 14, 0, 0, 1) := by decide +kernel
theorem k8_14 : icode MCl 8 14 = some (.ireturn, 15, 0, 0, 0) := by decide +kernel
theorem k9_0 : icode MCl 9 0 = some (.aload_n 0, 1, 0, 0, 0) := by decide +kernel
theorem k9_1 : icode MCl 9 1 = some (.getfield 9, 4, 9000, 1087, 0) := by decide +kernel
theorem k9_4 : icode MCl 9 4 = some (.arraylength, 5, 0, 0, 0) := by decide +kernel
theorem k9_5 : icode MCl 9 5 = some (.aload_n 0, 6, 0, 0, 0) := by decide +kernel
theorem k9_6 : icode MCl 9 6 = some (.invokevirtual 335, 9, 8, 222, 0) := by decide +kernel
theorem k9_9 : icode MCl 9 9 = some (.ishr, 10, 0, 0, 0) := by decide +kernel
theorem k9_10 : icode MCl 9 10 = some (.ireturn, 11, 0, 0, 0) := by decide +kernel
theorem k10_0 : icode MCl 10 0 = some (.getstatic 38, 3, 0, 226, 0) := by decide +kernel
theorem k10_3 : icode MCl 10 3 = some (.ifCond .eq 14, 6, 17, 0, 0) := by decide +kernel
theorem k10_6 : icode MCl 10 6 = some (.aload_n 0, 7, 0, 0, 0) := by decide +kernel
theorem k10_7 : icode MCl 10 7 = some (.getfield 15, 10, 9001, 1088, 0) := by decide +kernel
theorem k10_10 : icode MCl 10 10 = some (.ifCond .ne 7, 13, 17, 0, 0) := by decide +kernel
theorem k10_13 : icode MCl 10 13 = some (.iconst 1, 14, 0, 0, 1) := by decide +kernel
theorem k10_14 : icode MCl 10 14 = some (.goto 4, 17, 18, 0, 0) := by decide +kernel
theorem k10_17 : icode MCl 10 17 = some (.iconst 0, 18, 0, 0, 0) := by decide +kernel
theorem k10_18 : icode MCl 10 18 = some (.ireturn, 19, 0, 0, 0) := by decide +kernel
theorem k11_0 : icode MCl 11 0 = some (.iload_n 0, 1, 0, 0, 0) := by decide +kernel
theorem k11_1 : icode MCl 11 1 = some (.ifCond .lt 8, 4, 9, 0, 0) := by decide +kernel
theorem k11_4 : icode MCl 11 4 = some (.iload_n 0, 5, 0, 0, 0) := by decide +kernel
theorem k11_5 : icode MCl 11 5 = some (.iload_n 1, 6, 0, 0, 0) := by decide +kernel
theorem k11_6 : icode MCl 11 6 = some (.if_icmp .lt 10, 9, 16, 0, 0) := by decide +kernel
theorem k11_9 : icode MCl 11 9 = some (.aload_n 2, 10, 0, 0, 0) := by decide +kernel
theorem k11_10 : icode MCl 11 10 = some (.iload_n 0, 11, 0, 0, 0) := by decide +kernel
theorem k11_11 : icode MCl 11 11 = some (.iload_n 1, 12, 0, 0, 0) := by decide +kernel
theorem k11_12 : icode MCl 11 12 = some (.invokestatic 95, 15, 9998, 0, 0) := by decide +kernel
theorem k11_15 : icode MCl 11 15 = some (.athrow, 16, 0, 0, 0) := by decide +kernel
theorem k11_16 : icode MCl 11 16 = some (.iload_n 0, 17, 0, 0, 0) := by decide +kernel
theorem k11_17 : icode MCl 11 17 = some (.ireturn, 18, 0, 0, 0) := by decide +kernel
theorem k12_0 : icode MCl 12 0 = some (.iload_n 0, 1, 0, 0, 0) := by decide +kernel
theorem k12_1 : icode MCl 12 1 = some (.iload_n 1, 2, 0, 0, 0) := by decide +kernel
theorem k12_2 : icode MCl 12 2 = some (.getstatic 1053, 5, 1, 242, 0) := by decide +kernel
theorem k12_5 : icode MCl 12 5 = some (.invokestatic 1059, 8, 11, 244, 0) := by decide +kernel
theorem k12_8 : icode MCl 12 8 = some (.pop, 9, 0, 0, 0) := by decide +kernel
theorem k12_9 : icode MCl 12 9 = some (.return_, 10, 0, 0, 0) := by decide +kernel
theorem k13_0 : icode MCl 13 0 = some (.iload_n 1, 1, 0, 0, 0) := by decide +kernel
theorem k13_1 : icode MCl 13 1 = some (.aload_n 0, 2, 0, 0, 0) := by decide +kernel
theorem k13_2 : icode MCl 13 2 = some (.arraylength, 3, 0, 0, 0) := by decide +kernel
theorem k13_3 : icode MCl 13 3 = some (.invokestatic 9, 6, 12, 239, 0) := by decide +kernel
theorem k13_6 : icode MCl 13 6 = some (.aload_n 0, 7, 0, 0, 0) := by decide +kernel
theorem k13_7 : icode MCl 13 7 = some (.iload_n 1, 8, 0, 0, 0) := by decide +kernel
theorem k13_8 : icode MCl 13 8 = some (.baload, 9, 0, 0, 0) := by decide +kernel
theorem k13_9 : icode MCl 13 9 = some (.sipush 255, 12, 0, 0, 255) := by decide +kernel
theorem k13_12 : icode MCl 13 12 = some (.iand, 13, 0, 0, 0) := by decide +kernel
theorem k13_13 : icode MCl 13 13 = some (.i2c, 14, 0, 0, 0) := by decide +kernel
theorem k13_14 : icode MCl 13 14 = some (.ireturn, 15, 0, 0, 0) := by decide +kernel
theorem k14_0 : icode MCl 14 0 = some (.aload_n 0, 1, 0, 0, 0) := by decide +kernel
theorem k14_1 : icode MCl 14 1 = some (.invokevirtual 492, 4, 10, 232, 0) := by decide +kernel
theorem k14_4 : icode MCl 14 4 = some (.ifCond .eq 12, 7, 16, 0, 0) := by decide +kernel
theorem k14_7 : icode MCl 14 7 = some (.aload_n 0, 8, 0, 0, 0) := by decide +kernel
theorem k14_8 : icode MCl 14 8 = some (.getfield 9, 11, 9000, 1087, 0) := by decide +kernel
theorem k14_11 : icode MCl 14 11 = some (.iload_n 1, 12, 0, 0, 0) := by decide +kernel
theorem k14_12 : icode MCl 14 12 = some (.invokestatic 495, 15, 13, 236, 0) := by decide +kernel
theorem k14_15 : icode MCl 14 15 = some (.ireturn, 16, 0, 0, 0) := by decide +kernel
theorem k14_16 : icode MCl 14 16 = some (.aload_n 0, 17, 0, 0, 0) := by decide +kernel
theorem k14_17 : icode MCl 14 17 = some (.getfield 9, 20, 9000, 1087, 0) := by decide +kernel
theorem k14_20 : icode MCl 14 20 = some (.iload_n 1, 21, 0, 0, 0) := by decide +kernel
theorem k14_21 : icode MCl 14 21 = some (.invokestatic 498, 24, 9998, 0, 0) := by decide +kernel
theorem k14_24 : icode MCl 14 24 = some (.ireturn, 25, 0, 0, 0) := by decide +kernel
theorem k15_0 : icode MCl 15 0 = some (.iload_n 1, 1, 0, 0, 0) := by decide +kernel
theorem k15_1 : icode MCl 15 1 = some (.ifCond .lt 13, 4, 14, 0, 0) := by decide +kernel
theorem k15_4 : icode MCl 15 4 = some (.iload_n 1, 5, 0, 0, 0) := by decide +kernel
theorem k15_5 : icode MCl 15 5 = some (.aload_n 0, 6, 0, 0, 0) := by decide +kernel
theorem k15_6 : icode MCl 15 6 = some (.arraylength, 7, 0, 0, 0) := by decide +kernel
theorem k15_7 : icode MCl 15 7 = some (.if_icmp .ge 7, 10, 14, 0, 0) := by decide +kernel
theorem k15_10 : icode MCl 15 10 = some (.aload_n 0, 11, 0, 0, 0) := by decide +kernel
theorem k15_11 : icode MCl 15 11 = some (.iload_n 1, 12, 0, 0, 0) := by decide +kernel
theorem k15_12 : icode MCl 15 12 = some (.iload_n 2, 13, 0, 0, 0) := by decide +kernel
theorem k15_13 : icode MCl 15 13 = some (.iastore, 14, 0, 0, 0) := by decide +kernel
theorem k15_14 : icode MCl 15 14 = some (.return_, 15, 0, 0, 0) := by decide +kernel
theorem k16_0 : icode MCl 16 0 = some (.aload_n 0, 1, 0, 0, 0) := by decide +kernel
theorem k16_1 : icode MCl 16 1 = some (.getfield 15, 4, 1, 71, 0) := by decide +kernel
theorem k16_4 : icode MCl 16 4 = some (.sipush 200, 7, 0, 0, 200) := by decide +kernel
theorem k16_7 : icode MCl 16 7 = some (.if_icmp .lt 5, 10, 12, 0, 0) := by decide +kernel
theorem k16_10 : icode MCl 16 10 = some (.iconst 0, 11, 0, 0, 0) := by decide +kernel
theorem k16_11 : icode MCl 16 11 = some (.ireturn, 12, 0, 0, 0) := by decide +kernel
theorem k16_12 : icode MCl 16 12 = some (.aload_n 0, 13, 0, 0, 0) := by decide +kernel
theorem k16_13 : icode MCl 16 13 = some (.getfield 9, 16, 0, 70, 1) := by decide +kernel
theorem k16_16 : icode MCl 16 16 = some (.aload_n 0, 17, 0, 0, 0) := by decide +kernel
theorem k16_17 : icode MCl 16 17 = some (.getfield 15, 20, 1, 71, 0) := by decide +kernel
theorem k16_20 : icode MCl 16 20 = some (.iload_n 1, 21, 0, 0, 0) := by decide +kernel
theorem k16_21 : icode MCl 16 21 = some (.invokestatic 19, 24, 15, 270, 1) := by decide +kernel
theorem k16_24 : icode MCl 16 24 = some (.aload_n 0, 25, 0, 0, 0) := by decide +kernel
theorem k16_25 : icode MCl 16 25 = some (.dup, 26, 0, 0, 0) := by decide +kernel
theorem k16_26 : icode MCl 16 26 = some (.getfield 15, 29, 1, 71, 0) := by decide +kernel
theorem k16_29 : icode MCl 16 29 = some (.iconst 1, 30, 0, 0, 1) := by decide +kernel
theorem k16_30 : icode MCl 16 30 = some (.iadd, 31, 0, 0, 0) := by decide +kernel
theorem k16_31 : icode MCl 16 31 = some (.putfield 15, 34, 1, 71, 0) := by decide +kernel
theorem k16_34 : icode MCl 16 34 = some (.iconst 1, 35, 0, 0, 1) := by decide +kernel
theorem k16_35 : icode MCl 16 35 = some (.ireturn, 36, 0, 0, 0) := by decide +kernel
theorem k17_0 : icode MCl 17 0 = some (.aload_n 0, 1, 0, 0, 0) := by decide +kernel
theorem k17_1 : icode MCl 17 1 = some (.iconst 0, 2, 0, 0, 0) := by decide +kernel
theorem k17_2 : icode MCl 17 2 = some (.putfield 21, 5, 603, 93, 0) := by decide +kernel
theorem k17_5 : icode MCl 17 5 = some (.return_, 6, 0, 0, 0) := by decide +kernel
theorem k18_0 : icode MCl 18 0 = some (.aload_n 0, 1, 0, 0, 0) := by decide +kernel
theorem k18_1 : icode MCl 18 1 = some (.iconst 0, 2, 0, 0, 0) := by decide +kernel
theorem k18_2 : icode MCl 18 2 = some (.putfield 22, 5, 202, 146, 0) := by decide +kernel
theorem k18_5 : icode MCl 18 5 = some (.aload_n 0, 6, 0, 0, 0) := by decide +kernel
theorem k18_6 : icode MCl 18 6 = some (.iconst 0, 7, 0, 0, 0) := by decide +kernel
theorem k18_7 : icode MCl 18 7 = some (.putfield 26, 10, 203, 147, 0) := by decide +kernel
theorem k18_10 : icode MCl 18 10 = some (.aload_n 0, 11, 0, 0, 0) := by decide +kernel
theorem k18_11 : icode MCl 18 11 = some (.iconst 0, 12, 0, 0, 0) := by decide +kernel
theorem k18_12 : icode MCl 18 12 = some (.putfield 29, 15, 204, 148, 0) := by decide +kernel
theorem k18_15 : icode MCl 18 15 = some (.return_, 16, 0, 0, 0) := by decide +kernel
theorem k19_0 : icode MCl 19 0 = some (.aload_n 0, 1, 0, 0, 0) := by decide +kernel
theorem k19_1 : icode MCl 19 1 = some (.getfield 15, 4, 1, 71, 0) := by decide +kernel
theorem k19_4 : icode MCl 19 4 = some (.ireturn, 5, 0, 0, 0) := by decide +kernel
theorem k20_0 : icode MCl 20 0 = some (.iload_n 1, 1, 0, 0, 0) := by decide +kernel
theorem k20_1 : icode MCl 20 1 = some (.ifCond .lt 29, 4, 30, 0, 0) := by decide +kernel
theorem k20_4 : icode MCl 20 4 = some (.iload_n 1, 5, 0, 0, 0) := by decide +kernel
theorem k20_5 : icode MCl 20 5 = some (.aload_n 0, 6, 0, 0, 0) := by decide +kernel
theorem k20_6 : icode MCl 20 6 = some (.getfield 15, 9, 1, 71, 0) := by decide +kernel
theorem k20_9 : icode MCl 20 9 = some (.if_icmp .ge 21, 12, 30, 0, 0) := by decide +kernel
theorem k20_12 : icode MCl 20 12 = some (.iload_n 1, 13, 0, 0, 0) := by decide +kernel
theorem k20_13 : icode MCl 20 13 = some (.aload_n 0, 14, 0, 0, 0) := by decide +kernel
theorem k20_14 : icode MCl 20 14 = some (.getfield 9, 17, 0, 70, 1) := by decide +kernel
theorem k20_17 : icode MCl 20 17 = some (.arraylength, 18, 0, 0, 0) := by decide +kernel
theorem k20_18 : icode MCl 20 18 = some (.if_icmp .ge 12, 21, 30, 0, 0) := by decide +kernel
theorem k20_21 : icode MCl 20 21 = some (.aload_n 0, 22, 0, 0, 0) := by decide +kernel
theorem k20_22 : icode MCl 20 22 = some (.getfield 9, 25, 0, 70, 1) := by decide +kernel
theorem k20_25 : icode MCl 20 25 = some (.iload_n 1, 26, 0, 0, 0) := by decide +kernel
theorem k20_26 : icode MCl 20 26 = some (.iaload, 27, 0, 0, 0) := by decide +kernel
theorem k20_27 : icode MCl 20 27 = some (.goto 4, 30, 31, 0, 0) := by decide +kernel
theorem k20_30 : icode MCl 20 30 = some (.iconst 0, 31, 0, 0, 0) := by decide +kernel
theorem k20_31 : icode MCl 20 31 = some (.ireturn, 32, 0, 0, 0) := by decide +kernel
theorem k21_0 : icode MCl 21 0 = some (.aload_n 0, 1, 0, 0, 0) := by decide +kernel
theorem k21_1 : icode MCl 21 1 = some (.getfield 25, 4, 402, 164, 1) := by decide +kernel
theorem k21_4 : icode MCl 21 4 = some (.aload_n 0, 5, 0, 0, 0) := by decide +kernel
theorem k21_5 : icode MCl 21 5 = some (.getfield 33, 8, 403, 165, 0) := by decide +kernel
theorem k21_8 : icode MCl 21 8 = some (.invokevirtual 81, 11, 20, 297, 0) := by decide +kernel
theorem k21_11 : icode MCl 21 11 = some (.iload_n 1, 12, 0, 0, 0) := by decide +kernel
theorem k21_12 : icode MCl 21 12 = some (.if_icmp .eq 5, 15, 17, 0, 0) := by decide +kernel
theorem k21_15 : icode MCl 21 15 = some (.iconst 0, 16, 0, 0, 0) := by decide +kernel
theorem k21_16 : icode MCl 21 16 = some (.ireturn, 17, 0, 0, 0) := by decide +kernel
theorem k21_17 : icode MCl 21 17 = some (.aload_n 0, 18, 0, 0, 0) := by decide +kernel
theorem k21_18 : icode MCl 21 18 = some (.dup, 19, 0, 0, 0) := by decide +kernel
theorem k21_19 : icode MCl 21 19 = some (.getfield 33, 22, 403, 165, 0) := by decide +kernel
theorem k21_22 : icode MCl 21 22 = some (.iconst 1, 23, 0, 0, 1) := by decide +kernel
theorem k21_23 : icode MCl 21 23 = some (.iadd, 24, 0, 0, 0) := by decide +kernel
theorem k21_24 : icode MCl 21 24 = some (.putfield 33, 27, 403, 165, 0) := by decide +kernel
theorem k21_27 : icode MCl 21 27 = some (.iconst 1, 28, 0, 0, 1) := by decide +kernel
theorem k21_28 : icode MCl 21 28 = some (.ireturn, 29, 0, 0, 0) := by decide +kernel
theorem k22_0 : icode MCl 22 0 = some (.iload_n 0, 1, 0, 0, 0) := by decide +kernel
theorem k22_1 : icode MCl 22 1 = some (.iload_n 1, 2, 0, 0, 0) := by decide +kernel
theorem k22_2 : icode MCl 22 2 = some (.if_icmp .lt 12, 5, 14, 0, 0) := by decide +kernel
theorem k22_5 : icode MCl 22 5 = some (.iload_n 0, 6, 0, 0, 0) := by decide +kernel
theorem k22_6 : icode MCl 22 6 = some (.iload_n 2, 7, 0, 0, 0) := by decide +kernel
theorem k22_7 : icode MCl 22 7 = some (.if_icmp .gt 7, 10, 14, 0, 0) := by decide +kernel
theorem k22_10 : icode MCl 22 10 = some (.iconst 1, 11, 0, 0, 1) := by decide +kernel
theorem k22_11 : icode MCl 22 11 = some (.goto 4, 14, 15, 0, 0) := by decide +kernel
theorem k22_14 : icode MCl 22 14 = some (.iconst 0, 15, 0, 0, 0) := by decide +kernel
theorem k22_15 : icode MCl 22 15 = some (.ireturn, 16, 0, 0, 0) := by decide +kernel
theorem k23_0 : icode MCl 23 0 = some (.aload_n 0, 1, 0, 0, 0) := by decide +kernel
theorem k23_1 : icode MCl 23 1 = some (.getfield 25, 4, 402, 164, 1) := by decide +kernel
theorem k23_4 : icode MCl 23 4 = some (.aload_n 0, 5, 0, 0, 0) := by decide +kernel
theorem k23_5 : icode MCl 23 5 = some (.getfield 33, 8, 403, 165, 0) := by decide +kernel
theorem k23_8 : icode MCl 23 8 = some (.invokevirtual 81, 11, 20, 297, 0) := by decide +kernel
theorem k23_11 : icode MCl 23 11 = some (.istore_n 1, 12, 0, 0, 0) := by decide +kernel
theorem k23_12 : icode MCl 23 12 = some (.iload_n 1, 13, 0, 0, 0) := by decide +kernel
theorem k23_13 : icode MCl 23 13 = some (.bipush 48, 15, 0, 0, 48) := by decide +kernel
theorem k23_15 : icode MCl 23 15 = some (.bipush 57, 17, 0, 0, 57) := by decide +kernel
theorem k23_17 : icode MCl 23 17 = some (.invokestatic 88, 20, 22, 313, 1) := by decide +kernel
theorem k23_20 : icode MCl 23 20 = some (.ifCond .ne 5, 23, 25, 0, 0) := by decide +kernel
theorem k23_23 : icode MCl 23 23 = some (.iconst (-1), 24, 0, 0, (-1)) := by decide +kernel
theorem k23_24 : icode MCl 23 24 = some (.ireturn, 25, 0, 0, 0) := by decide +kernel
theorem k23_25 : icode MCl 23 25 = some (.aload_n 0, 26, 0, 0, 0) := by decide +kernel
theorem k23_26 : icode MCl 23 26 = some (.dup, 27, 0, 0, 0) := by decide +kernel
theorem k23_27 : icode MCl 23 27 = some (.getfield 33, 30, 403, 165, 0) := by decide +kernel
theorem k23_30 : icode MCl 23 30 = some (.iconst 1, 31, 0, 0, 1) := by decide +kernel
theorem k23_31 : icode MCl 23 31 = some (.iadd, 32, 0, 0, 0) := by decide +kernel
theorem k23_32 : icode MCl 23 32 = some (.putfield 33, 35, 403, 165, 0) := by decide +kernel
theorem k23_35 : icode MCl 23 35 = some (.iload_n 1, 36, 0, 0, 0) := by decide +kernel
theorem k23_36 : icode MCl 23 36 = some (.bipush 48, 38, 0, 0, 48) := by decide +kernel
theorem k23_38 : icode MCl 23 38 = some (.isub, 39, 0, 0, 0) := by decide +kernel
theorem k23_39 : icode MCl 23 39 = some (.ireturn, 40, 0, 0, 0) := by decide +kernel
theorem k24_0 : icode MCl 24 0 = some (.aload_n 0, 1, 0, 0, 0) := by decide +kernel
theorem k24_1 : icode MCl 24 1 = some (.invokevirtual 85, 4, 23, 309, 0) := by decide +kernel
theorem k24_4 : icode MCl 24 4 = some (.istore_n 1, 5, 0, 0, 0) := by decide +kernel
theorem k24_5 : icode MCl 24 5 = some (.iload_n 1, 6, 0, 0, 0) := by decide +kernel
theorem k24_6 : icode MCl 24 6 = some (.ifCond .ge 5, 9, 11, 0, 0) := by decide +kernel
theorem k24_9 : icode MCl 24 9 = some (.iconst (-1), 10, 0, 0, (-1)) := by decide +kernel
theorem k24_10 : icode MCl 24 10 = some (.ireturn, 11, 0, 0, 0) := by decide +kernel
theorem k24_11 : icode MCl 24 11 = some (.aload_n 0, 12, 0, 0, 0) := by decide +kernel
theorem k24_12 : icode MCl 24 12 = some (.invokevirtual 85, 15, 23, 309, 0) := by decide +kernel
theorem k24_15 : icode MCl 24 15 = some (.istore_n 2, 16, 0, 0, 0) := by decide +kernel
theorem k24_16 : icode MCl 24 16 = some (.iload_n 2, 17, 0, 0, 0) := by decide +kernel
theorem k24_17 : icode MCl 24 17 = some (.ifCond .ge 7, 20, 24, 0, 0) := by decide +kernel
theorem k24_20 : icode MCl 24 20 = some (.iload_n 1, 21, 0, 0, 0) := by decide +kernel
theorem k24_21 : icode MCl 24 21 = some (.goto 9, 24, 30, 0, 0) := by decide +kernel
theorem k24_24 : icode MCl 24 24 = some (.iload_n 1, 25, 0, 0, 0) := by decide +kernel
theorem k24_25 : icode MCl 24 25 = some (.bipush 10, 27, 0, 0, 10) := by decide +kernel
theorem k24_27 : icode MCl 24 27 = some (.imul, 28, 0, 0, 0) := by decide +kernel
theorem k24_28 : icode MCl 24 28 = some (.iload_n 2, 29, 0, 0, 0) := by decide +kernel
theorem k24_29 : icode MCl 24 29 = some (.iadd, 30, 0, 0, 0) := by decide +kernel
theorem k24_30 : icode MCl 24 30 = some (.ireturn, 31, 0, 0, 0) := by decide +kernel
theorem k25_0 : icode MCl 25 0 = some (.aload_n 0, 1, 0, 0, 0) := by decide +kernel
theorem k25_1 : icode MCl 25 1 = some (.getfield 21, 4, 603, 93, 0) := by decide +kernel
theorem k25_4 : icode MCl 25 4 = some (.bipush 9, 6, 0, 0, 9) := by decide +kernel
theorem k25_6 : icode MCl 25 6 = some (.if_icmp .ge 34, 9, 40, 0, 0) := by decide +kernel
theorem k25_9 : icode MCl 25 9 = some (.iload_n 1, 10, 0, 0, 0) := by decide +kernel
theorem k25_10 : icode MCl 25 10 = some (.iconst 0, 11, 0, 0, 0) := by decide +kernel
theorem k25_11 : icode MCl 25 11 = some (.iconst 4, 12, 0, 0, 4) := by decide +kernel
theorem k25_12 : icode MCl 25 12 = some (.invokestatic 33, 15, 22, 320, 1) := by decide +kernel
theorem k25_15 : icode MCl 25 15 = some (.ifCond .eq 25, 18, 40, 0, 0) := by decide +kernel
theorem k25_18 : icode MCl 25 18 = some (.iload_n 2, 19, 0, 0, 0) := by decide +kernel
theorem k25_19 : icode MCl 25 19 = some (.iconst 1, 20, 0, 0, 1) := by decide +kernel
theorem k25_20 : icode MCl 25 20 = some (.bipush 20, 22, 0, 0, 20) := by decide +kernel
theorem k25_22 : icode MCl 25 22 = some (.invokestatic 33, 25, 22, 320, 1) := by decide +kernel
theorem k25_25 : icode MCl 25 25 = some (.ifCond .eq 15, 28, 40, 0, 0) := by decide +kernel
theorem k25_28 : icode MCl 25 28 = some (.iload_n 3, 29, 0, 0, 0) := by decide +kernel
theorem k25_29 : icode MCl 25 29 = some (.iconst 0, 30, 0, 0, 0) := by decide +kernel
theorem k25_30 : icode MCl 25 30 = some (.aload_n 0, 31, 0, 0, 0) := by decide +kernel
theorem k25_31 : icode MCl 25 31 = some (.getfield 21, 34, 603, 93, 0) := by decide +kernel
theorem k25_34 : icode MCl 25 34 = some (.invokestatic 33, 37, 22, 320, 1) := by decide +kernel
theorem k25_37 : icode MCl 25 37 = some (.ifCond .ne 5, 40, 42, 0, 0) := by decide +kernel
theorem k25_40 : icode MCl 25 40 = some (.iconst 0, 41, 0, 0, 0) := by decide +kernel
theorem k25_41 : icode MCl 25 41 = some (.ireturn, 42, 0, 0, 0) := by decide +kernel
theorem k25_42 : icode MCl 25 42 = some (.aload_n 0, 43, 0, 0, 0) := by decide +kernel
theorem k25_43 : icode MCl 25 43 = some (.getfield 9, 46, 600, 90, 1) := by decide +kernel
theorem k25_46 : icode MCl 25 46 = some (.aload_n 0, 47, 0, 0, 0) := by decide +kernel
theorem k25_47 : icode MCl 25 47 = some (.getfield 21, 50, 603, 93, 0) := by decide +kernel
theorem k25_50 : icode MCl 25 50 = some (.iload_n 1, 51, 0, 0, 0) := by decide +kernel
theorem k25_51 : icode MCl 25 51 = some (.invokestatic 37, 54, 15, 321, 1) := by decide +kernel
theorem k25_54 : icode MCl 25 54 = some (.aload_n 0, 55, 0, 0, 0) := by decide +kernel
theorem k25_55 : icode MCl 25 55 = some (.getfield 15, 58, 601, 91, 1) := by decide +kernel
theorem k25_58 : icode MCl 25 58 = some (.aload_n 0, 59, 0, 0, 0) := by decide +kernel
theorem k25_59 : icode MCl 25 59 = some (.getfield 21, 62, 603, 93, 0) := by decide +kernel
theorem k25_62 : icode MCl 25 62 = some (.iload_n 2, 63, 0, 0, 0) := by decide +kernel
theorem k25_63 : icode MCl 25 63 = some (.invokestatic 37, 66, 15, 321, 1) := by decide +kernel
theorem k25_66 : icode MCl 25 66 = some (.aload_n 0, 67, 0, 0, 0) := by decide +kernel
theorem k25_67 : icode MCl 25 67 = some (.getfield 18, 70, 602, 92, 1) := by decide +kernel
theorem k25_70 : icode MCl 25 70 = some (.aload_n 0, 71, 0, 0, 0) := by decide +kernel
theorem k25_71 : icode MCl 25 71 = some (.getfield 21, 74, 603, 93, 0) := by decide +kernel
theorem k25_74 : icode MCl 25 74 = some (.iload_n 3, 75, 0, 0, 0) := by decide +kernel
theorem k25_75 : icode MCl 25 75 = some (.invokestatic 37, 78, 15, 321, 1) := by decide +kernel
theorem k25_78 : icode MCl 25 78 = some (.aload_n 0, 79, 0, 0, 0) := by decide +kernel
theorem k25_79 : icode MCl 25 79 = some (.dup, 80, 0, 0, 0) := by decide +kernel
theorem k25_80 : icode MCl 25 80 = some (.getfield 21, 83, 603, 93, 0) := by decide +kernel
theorem k25_83 : icode MCl 25 83 = some (.iconst 1, 84, 0, 0, 1) := by decide +kernel
theorem k25_84 : icode MCl 25 84 = some (.iadd, 85, 0, 0, 0) := by decide +kernel
theorem k25_85 : icode MCl 25 85 = some (.putfield 21, 88, 603, 93, 0) := by decide +kernel
theorem k25_88 : icode MCl 25 88 = some (.iconst 1, 89, 0, 0, 1) := by decide +kernel
theorem k25_89 : icode MCl 25 89 = some (.ireturn, 90, 0, 0, 0) := by decide +kernel
theorem k26_0 : icode MCl 26 0 = some (.aload_n 0, 1, 0, 0, 0) := by decide +kernel
theorem k26_1 : icode MCl 26 1 = some (.invokevirtual 60, 4, 24, 305, 0) := by decide +kernel
theorem k26_4 : icode MCl 26 4 = some (.istore_n 1, 5, 0, 0, 0) := by decide +kernel
theorem k26_5 : icode MCl 26 5 = some (.iload_n 1, 6, 0, 0, 0) := by decide +kernel
theorem k26_6 : icode MCl 26 6 = some (.ifCond .lt 12, 9, 18, 0, 0) := by decide +kernel
theorem k26_9 : icode MCl 26 9 = some (.aload_n 0, 10, 0, 0, 0) := by decide +kernel
theorem k26_10 : icode MCl 26 10 = some (.bipush 44, 12, 0, 0, 44) := by decide +kernel
theorem k26_12 : icode MCl 26 12 = some (.invokevirtual 47, 15, 21, 293, 0) := by decide +kernel
theorem k26_15 : icode MCl 26 15 = some (.ifCond .ne 5, 18, 20, 0, 0) := by decide +kernel
theorem k26_18 : icode MCl 26 18 = some (.iconst 0, 19, 0, 0, 0) := by decide +kernel
theorem k26_19 : icode MCl 26 19 = some (.ireturn, 20, 0, 0, 0) := by decide +kernel
theorem k26_20 : icode MCl 26 20 = some (.aload_n 0, 21, 0, 0, 0) := by decide +kernel
theorem k26_21 : icode MCl 26 21 = some (.invokevirtual 60, 24, 24, 305, 0) := by decide +kernel
theorem k26_24 : icode MCl 26 24 = some (.istore_n 2, 25, 0, 0, 0) := by decide +kernel
theorem k26_25 : icode MCl 26 25 = some (.iload_n 2, 26, 0, 0, 0) := by decide +kernel
theorem k26_26 : icode MCl 26 26 = some (.ifCond .lt 12, 29, 38, 0, 0) := by decide +kernel
theorem k26_29 : icode MCl 26 29 = some (.aload_n 0, 30, 0, 0, 0) := by decide +kernel
theorem k26_30 : icode MCl 26 30 = some (.bipush 44, 32, 0, 0, 44) := by decide +kernel
theorem k26_32 : icode MCl 26 32 = some (.invokevirtual 47, 35, 21, 293, 0) := by decide +kernel
theorem k26_35 : icode MCl 26 35 = some (.ifCond .ne 5, 38, 40, 0, 0) := by decide +kernel
theorem k26_38 : icode MCl 26 38 = some (.iconst 0, 39, 0, 0, 0) := by decide +kernel
theorem k26_39 : icode MCl 26 39 = some (.ireturn, 40, 0, 0, 0) := by decide +kernel
theorem k26_40 : icode MCl 26 40 = some (.aload_n 0, 41, 0, 0, 0) := by decide +kernel
theorem k26_41 : icode MCl 26 41 = some (.invokevirtual 60, 44, 24, 305, 0) := by decide +kernel
theorem k26_44 : icode MCl 26 44 = some (.istore_n 3, 45, 0, 0, 0) := by decide +kernel
theorem k26_45 : icode MCl 26 45 = some (.iload_n 3, 46, 0, 0, 0) := by decide +kernel
theorem k26_46 : icode MCl 26 46 = some (.ifCond .lt 29, 49, 75, 0, 0) := by decide +kernel
theorem k26_49 : icode MCl 26 49 = some (.aload_n 0, 50, 0, 0, 0) := by decide +kernel
theorem k26_50 : icode MCl 26 50 = some (.bipush 59, 52, 0, 0, 59) := by decide +kernel
theorem k26_52 : icode MCl 26 52 = some (.invokevirtual 47, 55, 21, 293, 0) := by decide +kernel
theorem k26_55 : icode MCl 26 55 = some (.ifCond .eq 20, 58, 75, 0, 0) := by decide +kernel
theorem k26_58 : icode MCl 26 58 = some (.aload_n 0, 59, 0, 0, 0) := by decide +kernel
theorem k26_59 : icode MCl 26 59 = some (.getfield 12, 62, 400, 160, 1) := by decide +kernel
theorem k26_62 : icode MCl 26 62 = some (.iload_n 1, 63, 0, 0, 0) := by decide +kernel
theorem k26_63 : icode MCl 26 63 = some (.iload_n 2, 64, 0, 0, 0) := by decide +kernel
theorem k26_64 : icode MCl 26 64 = some (.iload_n 3, 65, 0, 0, 0) := by decide +kernel
theorem k26_65 : icode MCl 26 65 = some (.invokevirtual 63, 68, 25, 316, 0) := by decide +kernel
theorem k26_68 : icode MCl 26 68 = some (.ifCond .eq 7, 71, 75, 0, 0) := by decide +kernel
theorem k26_71 : icode MCl 26 71 = some (.iconst 1, 72, 0, 0, 1) := by decide +kernel
theorem k26_72 : icode MCl 26 72 = some (.goto 4, 75, 76, 0, 0) := by decide +kernel
theorem k26_75 : icode MCl 26 75 = some (.iconst 0, 76, 0, 0, 0) := by decide +kernel
theorem k26_76 : icode MCl 26 76 = some (.ireturn, 77, 0, 0, 0) := by decide +kernel
theorem k27_0 : icode MCl 27 0 = some (.iload_n 0, 1, 0, 0, 0) := by decide +kernel
theorem k27_1 : icode MCl 27 1 = some (.iconst 4, 2, 0, 0, 4) := by decide +kernel
theorem k27_2 : icode MCl 27 2 = some (.imul, 3, 0, 0, 0) := by decide +kernel
theorem k27_3 : icode MCl 27 3 = some (.iload_n 1, 4, 0, 0, 0) := by decide +kernel
theorem k27_4 : icode MCl 27 4 = some (.iadd, 5, 0, 0, 0) := by decide +kernel
theorem k27_5 : icode MCl 27 5 = some (.ireturn, 6, 0, 0, 0) := by decide +kernel
theorem k28_0 : icode MCl 28 0 = some (.iconst 0, 1, 0, 0, 0) := by decide +kernel
theorem k28_1 : icode MCl 28 1 = some (.istore_n 1, 2, 0, 0, 0) := by decide +kernel
theorem k28_2 : icode MCl 28 2 = some (.iconst 0, 3, 0, 0, 0) := by decide +kernel
theorem k28_3 : icode MCl 28 3 = some (.istore_n 2, 4, 0, 0, 0) := by decide +kernel
theorem k28_4 : icode MCl 28 4 = some (.iload_n 2, 5, 0, 0, 0) := by decide +kernel
theorem k28_5 : icode MCl 28 5 = some (.bipush 8, 7, 0, 0, 8) := by decide +kernel
theorem k28_7 : icode MCl 28 7 = some (.if_icmp .ge 62, 10, 69, 0, 0) := by decide +kernel
theorem k28_10 : icode MCl 28 10 = some (.aload_n 0, 11, 0, 0, 0) := by decide +kernel
theorem k28_11 : icode MCl 28 11 = some (.bipush 112, 13, 0, 0, 112) := by decide +kernel
theorem k28_13 : icode MCl 28 13 = some (.invokevirtual 47, 16, 21, 293, 0) := by decide +kernel
theorem k28_16 : icode MCl 28 16 = some (.ifCond .eq 7, 19, 23, 0, 0) := by decide +kernel
theorem k28_19 : icode MCl 28 19 = some (.iconst 1, 20, 0, 0, 1) := by decide +kernel
theorem k28_20 : icode MCl 28 20 = some (.goto 30, 23, 50, 0, 0) := by decide +kernel
theorem k28_23 : icode MCl 28 23 = some (.aload_n 0, 24, 0, 0, 0) := by decide +kernel
theorem k28_24 : icode MCl 28 24 = some (.bipush 117, 26, 0, 0, 117) := by decide +kernel
theorem k28_26 : icode MCl 28 26 = some (.invokevirtual 47, 29, 21, 293, 0) := by decide +kernel
theorem k28_29 : icode MCl 28 29 = some (.ifCond .eq 7, 32, 36, 0, 0) := by decide +kernel
theorem k28_32 : icode MCl 28 32 = some (.iconst 2, 33, 0, 0, 2) := by decide +kernel
theorem k28_33 : icode MCl 28 33 = some (.goto 17, 36, 50, 0, 0) := by decide +kernel
theorem k28_36 : icode MCl 28 36 = some (.aload_n 0, 37, 0, 0, 0) := by decide +kernel
theorem k28_37 : icode MCl 28 37 = some (.bipush 115, 39, 0, 0, 115) := by decide +kernel
theorem k28_39 : icode MCl 28 39 = some (.invokevirtual 47, 42, 21, 293, 0) := by decide +kernel
theorem k28_42 : icode MCl 28 42 = some (.ifCond .eq 7, 45, 49, 0, 0) := by decide +kernel
theorem k28_45 : icode MCl 28 45 = some (.iconst 3, 46, 0, 0, 3) := by decide +kernel
theorem k28_46 : icode MCl 28 46 = some (.goto 4, 49, 50, 0, 0) := by decide +kernel
theorem k28_49 : icode MCl 28 49 = some (.iconst 0, 50, 0, 0, 0) := by decide +kernel
theorem k28_50 : icode MCl 28 50 = some (.istore_n 3, 51, 0, 0, 0) := by decide +kernel
theorem k28_51 : icode MCl 28 51 = some (.iload_n 3, 52, 0, 0, 0) := by decide +kernel
theorem k28_52 : icode MCl 28 52 = some (.ifCond .ne 5, 55, 57, 0, 0) := by decide +kernel
theorem k28_55 : icode MCl 28 55 = some (.iload_n 1, 56, 0, 0, 0) := by decide +kernel
theorem k28_56 : icode MCl 28 56 = some (.ireturn, 57, 0, 0, 0) := by decide +kernel
theorem k28_57 : icode MCl 28 57 = some (.iload_n 1, 58, 0, 0, 0) := by decide +kernel
theorem k28_58 : icode MCl 28 58 = some (.iload_n 3, 59, 0, 0, 0) := by decide +kernel
theorem k28_59 : icode MCl 28 59 = some (.invokestatic 91, 62, 27, 330, 0) := by decide +kernel
theorem k28_62 : icode MCl 28 62 = some (.istore_n 1, 63, 0, 0, 0) := by decide +kernel
theorem k28_63 : icode MCl 28 63 = some (.iinc 2 1, 66, 0, 0, 1) := by decide +kernel
theorem k28_66 : icode MCl 28 66 = some (.goto (-62), 69, 4, 0, 0) := by decide +kernel
theorem k28_69 : icode MCl 28 69 = some (.iload_n 1, 70, 0, 0, 0) := by decide +kernel
theorem k28_70 : icode MCl 28 70 = some (.ireturn, 71, 0, 0, 0) := by decide +kernel
theorem k29_0 : icode MCl 29 0 = some (.iload_n 1, 1, 0, 0, 0) := by decide +kernel
theorem k29_1 : icode MCl 29 1 = some (.ifCond .lt 15, 4, 16, 0, 0) := by decide +kernel
theorem k29_4 : icode MCl 29 4 = some (.iload_n 1, 5, 0, 0, 0) := by decide +kernel
theorem k29_5 : icode MCl 29 5 = some (.aload_n 0, 6, 0, 0, 0) := by decide +kernel
theorem k29_6 : icode MCl 29 6 = some (.getfield 21, 9, 603, 93, 0) := by decide +kernel
theorem k29_9 : icode MCl 29 9 = some (.if_icmp .ge 7, 12, 16, 0, 0) := by decide +kernel
theorem k29_12 : icode MCl 29 12 = some (.iconst 1, 13, 0, 0, 1) := by decide +kernel
theorem k29_13 : icode MCl 29 13 = some (.goto 4, 16, 17, 0, 0) := by decide +kernel
theorem k29_16 : icode MCl 29 16 = some (.iconst 0, 17, 0, 0, 0) := by decide +kernel
theorem k29_17 : icode MCl 29 17 = some (.ireturn, 18, 0, 0, 0) := by decide +kernel
theorem k30_0 : icode MCl 30 0 = some (.iload_n 1, 1, 0, 0, 0) := by decide +kernel
theorem k30_1 : icode MCl 30 1 = some (.ifCond .lt 21, 4, 22, 0, 0) := by decide +kernel
theorem k30_4 : icode MCl 30 4 = some (.iload_n 1, 5, 0, 0, 0) := by decide +kernel
theorem k30_5 : icode MCl 30 5 = some (.aload_n 0, 6, 0, 0, 0) := by decide +kernel
theorem k30_6 : icode MCl 30 6 = some (.getfield 11, 9, 200, 144, 1) := by decide +kernel
theorem k30_9 : icode MCl 30 9 = some (.arraylength, 10, 0, 0, 0) := by decide +kernel
theorem k30_10 : icode MCl 30 10 = some (.if_icmp .ge 12, 13, 22, 0, 0) := by decide +kernel
theorem k30_13 : icode MCl 30 13 = some (.aload_n 0, 14, 0, 0, 0) := by decide +kernel
theorem k30_14 : icode MCl 30 14 = some (.getfield 11, 17, 200, 144, 1) := by decide +kernel
theorem k30_17 : icode MCl 30 17 = some (.iload_n 1, 18, 0, 0, 0) := by decide +kernel
theorem k30_18 : icode MCl 30 18 = some (.aaload, 19, 0, 0, 0) := by decide +kernel
theorem k30_19 : icode MCl 30 19 = some (.goto 4, 22, 23, 0, 0) := by decide +kernel
theorem k30_22 : icode MCl 30 22 = some (.aconst_null, 23, 0, 0, 0) := by decide +kernel
theorem k30_23 : icode MCl 30 23 = some (.astore_n 2, 24, 0, 0, 0) := by decide +kernel
theorem k30_24 : icode MCl 30 24 = some (.aload_n 2, 25, 0, 0, 0) := by decide +kernel
theorem k30_25 : icode MCl 30 25 = some (.ifnonnull 10, 28, 35, 0, 0) := by decide +kernel
theorem k30_28 : icode MCl 30 28 = some (.aload_n 0, 29, 0, 0, 0) := by decide +kernel
theorem k30_29 : icode MCl 30 29 = some (.getfield 18, 32, 201, 145, 1) := by decide +kernel
theorem k30_32 : icode MCl 30 32 = some (.goto 4, 35, 36, 0, 0) := by decide +kernel
theorem k30_35 : icode MCl 30 35 = some (.aload_n 2, 36, 0, 0, 0) := by decide +kernel
theorem k30_36 : icode MCl 30 36 = some (.areturn, 37, 0, 0, 0) := by decide +kernel
theorem k31_0 : icode MCl 31 0 = some (.aload_n 0, 1, 0, 0, 0) := by decide +kernel
theorem k31_1 : icode MCl 31 1 = some (.iload_n 2, 2, 0, 0, 0) := by decide +kernel
theorem k31_2 : icode MCl 31 2 = some (.putfield 9, 5, 100, 116, 0) := by decide +kernel
theorem k31_5 : icode MCl 31 5 = some (.aload_n 0, 6, 0, 0, 0) := by decide +kernel
theorem k31_6 : icode MCl 31 6 = some (.iconst 0, 7, 0, 0, 0) := by decide +kernel
theorem k31_7 : icode MCl 31 7 = some (.putfield 15, 10, 101, 118, 0) := by decide +kernel
theorem k31_10 : icode MCl 31 10 = some (.aload_n 0, 11, 0, 0, 0) := by decide +kernel
theorem k31_11 : icode MCl 31 11 = some (.iload_n 1, 12, 0, 0, 0) := by decide +kernel
theorem k31_12 : icode MCl 31 12 = some (.putfield 18, 15, 102, 121, 0) := by decide +kernel
theorem k31_15 : icode MCl 31 15 = some (.aload_n 0, 16, 0, 0, 0) := by decide +kernel
theorem k31_16 : icode MCl 31 16 = some (.iload_n 3, 17, 0, 0, 0) := by decide +kernel
theorem k31_17 : icode MCl 31 17 = some (.putfield 21, 20, 103, 124, 0) := by decide +kernel
theorem k31_20 : icode MCl 31 20 = some (.aload_n 0, 21, 0, 0, 0) := by decide +kernel
theorem k31_21 : icode MCl 31 21 = some (.iconst 0, 22, 0, 0, 0) := by decide +kernel
theorem k31_22 : icode MCl 31 22 = some (.putfield 24, 25, 104, 127, 0) := by decide +kernel
theorem k31_25 : icode MCl 31 25 = some (.aload_n 0, 26, 0, 0, 0) := by decide +kernel
theorem k31_26 : icode MCl 31 26 = some (.iconst 0, 27, 0, 0, 0) := by decide +kernel
theorem k31_27 : icode MCl 31 27 = some (.putfield 27, 30, 105, 129, 0) := by decide +kernel
theorem k31_30 : icode MCl 31 30 = some (.return_, 31, 0, 0, 0) := by decide +kernel
theorem k32_0 : icode MCl 32 0 = some (.aload_n 0, 1, 0, 0, 0) := by decide +kernel
theorem k32_1 : icode MCl 32 1 = some (.getfield 22, 4, 202, 146, 0) := by decide +kernel
theorem k32_4 : icode MCl 32 4 = some (.bipush 6, 6, 0, 0, 6) := by decide +kernel
theorem k32_6 : icode MCl 32 6 = some (.if_icmp .lt 5, 9, 11, 0, 0) := by decide +kernel
theorem k32_9 : icode MCl 32 9 = some (.iconst 0, 10, 0, 0, 0) := by decide +kernel
theorem k32_10 : icode MCl 32 10 = some (.ireturn, 11, 0, 0, 0) := by decide +kernel
theorem k32_11 : icode MCl 32 11 = some (.aload_n 0, 12, 0, 0, 0) := by decide +kernel
theorem k32_12 : icode MCl 32 12 = some (.aload_n 0, 13, 0, 0, 0) := by decide +kernel
theorem k32_13 : icode MCl 32 13 = some (.getfield 22, 16, 202, 146, 0) := by decide +kernel
theorem k32_16 : icode MCl 32 16 = some (.invokevirtual 32, 19, 30, 341, 0) := by decide +kernel
theorem k32_19 : icode MCl 32 19 = some (.iload_n 1, 20, 0, 0, 0) := by decide +kernel
theorem k32_20 : icode MCl 32 20 = some (.iload_n 2, 21, 0, 0, 0) := by decide +kernel
theorem k32_21 : icode MCl 32 21 = some (.iload_n 3, 22, 0, 0, 0) := by decide +kernel
theorem k32_22 : icode MCl 32 22 = some (.invokevirtual 40, 25, 31, 345, 0) := by decide +kernel
theorem k32_25 : icode MCl 32 25 = some (.aload_n 0, 26, 0, 0, 0) := by decide +kernel
theorem k32_26 : icode MCl 32 26 = some (.dup, 27, 0, 0, 0) := by decide +kernel
theorem k32_27 : icode MCl 32 27 = some (.getfield 22, 30, 202, 146, 0) := by decide +kernel
theorem k32_30 : icode MCl 32 30 = some (.iconst 1, 31, 0, 0, 1) := by decide +kernel
theorem k32_31 : icode MCl 32 31 = some (.iadd, 32, 0, 0, 0) := by decide +kernel
theorem k32_32 : icode MCl 32 32 = some (.putfield 22, 35, 202, 146, 0) := by decide +kernel
theorem k32_35 : icode MCl 32 35 = some (.iconst 1, 36, 0, 0, 1) := by decide +kernel
theorem k32_36 : icode MCl 32 36 = some (.ireturn, 37, 0, 0, 0) := by decide +kernel
theorem k33_0 : icode MCl 33 0 = some (.aload_n 0, 1, 0, 0, 0) := by decide +kernel
theorem k33_1 : icode MCl 33 1 = some (.invokevirtual 60, 4, 24, 305, 0) := by decide +kernel
theorem k33_4 : icode MCl 33 4 = some (.istore_n 1, 5, 0, 0, 0) := by decide +kernel
theorem k33_5 : icode MCl 33 5 = some (.iload_n 1, 6, 0, 0, 0) := by decide +kernel
theorem k33_6 : icode MCl 33 6 = some (.ifCond .lt 12, 9, 18, 0, 0) := by decide +kernel
theorem k33_9 : icode MCl 33 9 = some (.aload_n 0, 10, 0, 0, 0) := by decide +kernel
theorem k33_10 : icode MCl 33 10 = some (.bipush 44, 12, 0, 0, 44) := by decide +kernel
theorem k33_12 : icode MCl 33 12 = some (.invokevirtual 47, 15, 21, 293, 0) := by decide +kernel
theorem k33_15 : icode MCl 33 15 = some (.ifCond .ne 5, 18, 20, 0, 0) := by decide +kernel
theorem k33_18 : icode MCl 33 18 = some (.iconst 0, 19, 0, 0, 0) := by decide +kernel
theorem k33_19 : icode MCl 33 19 = some (.ireturn, 20, 0, 0, 0) := by decide +kernel
theorem k33_20 : icode MCl 33 20 = some (.aload_n 0, 21, 0, 0, 0) := by decide +kernel
theorem k33_21 : icode MCl 33 21 = some (.invokevirtual 60, 24, 24, 305, 0) := by decide +kernel
theorem k33_24 : icode MCl 33 24 = some (.istore_n 2, 25, 0, 0, 0) := by decide +kernel
theorem k33_25 : icode MCl 33 25 = some (.iload_n 2, 26, 0, 0, 0) := by decide +kernel
theorem k33_26 : icode MCl 33 26 = some (.ifCond .lt 12, 29, 38, 0, 0) := by decide +kernel
theorem k33_29 : icode MCl 33 29 = some (.aload_n 0, 30, 0, 0, 0) := by decide +kernel
theorem k33_30 : icode MCl 33 30 = some (.bipush 44, 32, 0, 0, 44) := by decide +kernel
theorem k33_32 : icode MCl 33 32 = some (.invokevirtual 47, 35, 21, 293, 0) := by decide +kernel
theorem k33_35 : icode MCl 33 35 = some (.ifCond .ne 5, 38, 40, 0, 0) := by decide +kernel
theorem k33_38 : icode MCl 33 38 = some (.iconst 0, 39, 0, 0, 0) := by decide +kernel
theorem k33_39 : icode MCl 33 39 = some (.ireturn, 40, 0, 0, 0) := by decide +kernel
theorem k33_40 : icode MCl 33 40 = some (.aload_n 0, 41, 0, 0, 0) := by decide +kernel
theorem k33_41 : icode MCl 33 41 = some (.invokevirtual 67, 44, 28, 326, 0) := by decide +kernel
theorem k33_44 : icode MCl 33 44 = some (.istore_n 3, 45, 0, 0, 0) := by decide +kernel
theorem k33_45 : icode MCl 33 45 = some (.iload_n 3, 46, 0, 0, 0) := by decide +kernel
theorem k33_46 : icode MCl 33 46 = some (.ifCond .le 40, 49, 86, 0, 0) := by decide +kernel
theorem k33_49 : icode MCl 33 49 = some (.aload_n 0, 50, 0, 0, 0) := by decide +kernel
theorem k33_50 : icode MCl 33 50 = some (.bipush 59, 52, 0, 0, 59) := by decide +kernel
theorem k33_52 : icode MCl 33 52 = some (.invokevirtual 47, 55, 21, 293, 0) := by decide +kernel
theorem k33_55 : icode MCl 33 55 = some (.ifCond .eq 31, 58, 86, 0, 0) := by decide +kernel
theorem k33_58 : icode MCl 33 58 = some (.aload_n 0, 59, 0, 0, 0) := by decide +kernel
theorem k33_59 : icode MCl 33 59 = some (.getfield 12, 62, 400, 160, 1) := by decide +kernel
theorem k33_62 : icode MCl 33 62 = some (.iload_n 1, 63, 0, 0, 0) := by decide +kernel
theorem k33_63 : icode MCl 33 63 = some (.invokevirtual 70, 66, 29, 333, 0) := by decide +kernel
theorem k33_66 : icode MCl 33 66 = some (.ifCond .eq 20, 69, 86, 0, 0) := by decide +kernel
theorem k33_69 : icode MCl 33 69 = some (.aload_n 0, 70, 0, 0, 0) := by decide +kernel
theorem k33_70 : icode MCl 33 70 = some (.getfield 21, 73, 401, 162, 1) := by decide +kernel
theorem k33_73 : icode MCl 33 73 = some (.iload_n 1, 74, 0, 0, 0) := by decide +kernel
theorem k33_74 : icode MCl 33 74 = some (.iload_n 2, 75, 0, 0, 0) := by decide +kernel
theorem k33_75 : icode MCl 33 75 = some (.iload_n 3, 76, 0, 0, 0) := by decide +kernel
theorem k33_76 : icode MCl 33 76 = some (.invokevirtual 73, 79, 32, 337, 0) := by decide +kernel
theorem k33_79 : icode MCl 33 79 = some (.ifCond .eq 7, 82, 86, 0, 0) := by decide +kernel
theorem k33_82 : icode MCl 33 82 = some (.iconst 1, 83, 0, 0, 1) := by decide +kernel
theorem k33_83 : icode MCl 33 83 = some (.goto 4, 86, 87, 0, 0) := by decide +kernel
theorem k33_86 : icode MCl 33 86 = some (.iconst 0, 87, 0, 0, 0) := by decide +kernel
theorem k33_87 : icode MCl 33 87 = some (.ireturn, 88, 0, 0, 0) := by decide +kernel
theorem k34_0 : icode MCl 34 0 = some (.iload_n 0, 1, 0, 0, 0) := by decide +kernel
theorem k34_1 : icode MCl 34 1 = some (.iload_n 1, 2, 0, 0, 0) := by decide +kernel
theorem k34_2 : icode MCl 34 2 = some (.ishr, 3, 0, 0, 0) := by decide +kernel
theorem k34_3 : icode MCl 34 3 = some (.iconst 1, 4, 0, 0, 1) := by decide +kernel
theorem k34_4 : icode MCl 34 4 = some (.iand, 5, 0, 0, 0) := by decide +kernel
theorem k34_5 : icode MCl 34 5 = some (.iconst 1, 6, 0, 0, 1) := by decide +kernel
theorem k34_6 : icode MCl 34 6 = some (.if_icmp .ne 7, 9, 13, 0, 0) := by decide +kernel
theorem k34_9 : icode MCl 34 9 = some (.iconst 1, 10, 0, 0, 1) := by decide +kernel
theorem k34_10 : icode MCl 34 10 = some (.goto 4, 13, 14, 0, 0) := by decide +kernel
theorem k34_13 : icode MCl 34 13 = some (.iconst 0, 14, 0, 0, 0) := by decide +kernel
theorem k34_14 : icode MCl 34 14 = some (.ireturn, 15, 0, 0, 0) := by decide +kernel
theorem k35_0 : icode MCl 35 0 = some (.aload_n 0, 1, 0, 0, 0) := by decide +kernel
theorem k35_1 : icode MCl 35 1 = some (.getfield 29, 4, 204, 148, 0) := by decide +kernel
theorem k35_4 : icode MCl 35 4 = some (.iload_n 1, 5, 0, 0, 0) := by decide +kernel
theorem k35_5 : icode MCl 35 5 = some (.invokestatic 44, 8, 34, 357, 1) := by decide +kernel
theorem k35_8 : icode MCl 35 8 = some (.ireturn, 9, 0, 0, 0) := by decide +kernel
theorem k36_0 : icode MCl 36 0 = some (.aload_n 0, 1, 0, 0, 0) := by decide +kernel
theorem k36_1 : icode MCl 36 1 = some (.dup, 2, 0, 0, 0) := by decide +kernel
theorem k36_2 : icode MCl 36 2 = some (.getfield 29, 5, 204, 148, 0) := by decide +kernel
theorem k36_5 : icode MCl 36 5 = some (.iconst 1, 6, 0, 0, 1) := by decide +kernel
theorem k36_6 : icode MCl 36 6 = some (.iload_n 1, 7, 0, 0, 0) := by decide +kernel
theorem k36_7 : icode MCl 36 7 = some (.ishl, 8, 0, 0, 0) := by decide +kernel
theorem k36_8 : icode MCl 36 8 = some (.ixor, 9, 0, 0, 0) := by decide +kernel
theorem k36_9 : icode MCl 36 9 = some (.putfield 29, 12, 204, 148, 0) := by decide +kernel
theorem k36_12 : icode MCl 36 12 = some (.return_, 13, 0, 0, 0) := by decide +kernel
theorem k37_0 : icode MCl 37 0 = some (.aload_n 0, 1, 0, 0, 0) := by decide +kernel
theorem k37_1 : icode MCl 37 1 = some (.invokevirtual 60, 4, 24, 305, 0) := by decide +kernel
theorem k37_4 : icode MCl 37 4 = some (.istore_n 1, 5, 0, 0, 0) := by decide +kernel
theorem k37_5 : icode MCl 37 5 = some (.iload_n 1, 6, 0, 0, 0) := by decide +kernel
theorem k37_6 : icode MCl 37 6 = some (.ifCond .lt 23, 9, 29, 0, 0) := by decide +kernel
theorem k37_9 : icode MCl 37 9 = some (.aload_n 0, 10, 0, 0, 0) := by decide +kernel
theorem k37_10 : icode MCl 37 10 = some (.bipush 59, 12, 0, 0, 59) := by decide +kernel
theorem k37_12 : icode MCl 37 12 = some (.invokevirtual 47, 15, 21, 293, 0) := by decide +kernel
theorem k37_15 : icode MCl 37 15 = some (.ifCond .eq 14, 18, 29, 0, 0) := by decide +kernel
theorem k37_18 : icode MCl 37 18 = some (.aload_n 0, 19, 0, 0, 0) := by decide +kernel
theorem k37_19 : icode MCl 37 19 = some (.getfield 12, 22, 400, 160, 1) := by decide +kernel
theorem k37_22 : icode MCl 37 22 = some (.iload_n 1, 23, 0, 0, 0) := by decide +kernel
theorem k37_23 : icode MCl 37 23 = some (.invokevirtual 70, 26, 29, 333, 0) := by decide +kernel
theorem k37_26 : icode MCl 37 26 = some (.ifCond .ne 5, 29, 31, 0, 0) := by decide +kernel
theorem k37_29 : icode MCl 37 29 = some (.iconst 0, 30, 0, 0, 0) := by decide +kernel
theorem k37_30 : icode MCl 37 30 = some (.ireturn, 31, 0, 0, 0) := by decide +kernel
theorem k37_31 : icode MCl 37 31 = some (.aload_n 0, 32, 0, 0, 0) := by decide +kernel
theorem k37_32 : icode MCl 37 32 = some (.getfield 21, 35, 401, 162, 1) := by decide +kernel
theorem k37_35 : icode MCl 37 35 = some (.iload_n 1, 36, 0, 0, 0) := by decide +kernel
theorem k37_36 : icode MCl 37 36 = some (.invokevirtual 74, 39, 35, 353, 0) := by decide +kernel
theorem k37_39 : icode MCl 37 39 = some (.ifCond .ne 11, 42, 50, 0, 0) := by decide +kernel
theorem k37_42 : icode MCl 37 42 = some (.aload_n 0, 43, 0, 0, 0) := by decide +kernel
theorem k37_43 : icode MCl 37 43 = some (.getfield 21, 46, 401, 162, 1) := by decide +kernel
theorem k37_46 : icode MCl 37 46 = some (.iload_n 1, 47, 0, 0, 0) := by decide +kernel
theorem k37_47 : icode MCl 37 47 = some (.invokevirtual 77, 50, 36, 360, 0) := by decide +kernel
theorem k37_50 : icode MCl 37 50 = some (.iconst 1, 51, 0, 0, 1) := by decide +kernel
theorem k37_51 : icode MCl 37 51 = some (.ireturn, 52, 0, 0, 0) := by decide +kernel
theorem k38_0 : icode MCl 38 0 = some (.aload_n 0, 1, 0, 0, 0) := by decide +kernel
theorem k38_1 : icode MCl 38 1 = some (.bipush 99, 3, 0, 0, 99) := by decide +kernel
theorem k38_3 : icode MCl 38 3 = some (.invokevirtual 47, 6, 21, 293, 0) := by decide +kernel
theorem k38_6 : icode MCl 38 6 = some (.ifCond .eq 8, 9, 14, 0, 0) := by decide +kernel
theorem k38_9 : icode MCl 38 9 = some (.aload_n 0, 10, 0, 0, 0) := by decide +kernel
theorem k38_10 : icode MCl 38 10 = some (.invokevirtual 51, 13, 26, 301, 0) := by decide +kernel
theorem k38_13 : icode MCl 38 13 = some (.ireturn, 14, 0, 0, 0) := by decide +kernel
theorem k38_14 : icode MCl 38 14 = some (.aload_n 0, 15, 0, 0, 0) := by decide +kernel
theorem k38_15 : icode MCl 38 15 = some (.bipush 109, 17, 0, 0, 109) := by decide +kernel
theorem k38_17 : icode MCl 38 17 = some (.invokevirtual 47, 20, 21, 293, 0) := by decide +kernel
theorem k38_20 : icode MCl 38 20 = some (.ifCond .eq 8, 23, 28, 0, 0) := by decide +kernel
theorem k38_23 : icode MCl 38 23 = some (.aload_n 0, 24, 0, 0, 0) := by decide +kernel
theorem k38_24 : icode MCl 38 24 = some (.invokevirtual 54, 27, 33, 322, 0) := by decide +kernel
theorem k38_27 : icode MCl 38 27 = some (.ireturn, 28, 0, 0, 0) := by decide +kernel
theorem k38_28 : icode MCl 38 28 = some (.aload_n 0, 29, 0, 0, 0) := by decide +kernel
theorem k38_29 : icode MCl 38 29 = some (.bipush 105, 31, 0, 0, 105) := by decide +kernel
theorem k38_31 : icode MCl 38 31 = some (.invokevirtual 47, 34, 21, 293, 0) := by decide +kernel
theorem k38_34 : icode MCl 38 34 = some (.ifCond .eq 8, 37, 42, 0, 0) := by decide +kernel
theorem k38_37 : icode MCl 38 37 = some (.aload_n 0, 38, 0, 0, 0) := by decide +kernel
theorem k38_38 : icode MCl 38 38 = some (.invokevirtual 57, 41, 37, 349, 0) := by decide +kernel
theorem k38_41 : icode MCl 38 41 = some (.ireturn, 42, 0, 0, 0) := by decide +kernel
theorem k38_42 : icode MCl 38 42 = some (.iconst 0, 43, 0, 0, 0) := by decide +kernel
theorem k38_43 : icode MCl 38 43 = some (.ireturn, 44, 0, 0, 0) := by decide +kernel
theorem k39_0 : icode MCl 39 0 = some (.aload_n 0, 1, 0, 0, 0) := by decide +kernel
theorem k39_1 : icode MCl 39 1 = some (.getfield 12, 4, 400, 160, 1) := by decide +kernel
theorem k39_4 : icode MCl 39 4 = some (.invokevirtual 29, 7, 17, 277, 0) := by decide +kernel
theorem k39_7 : icode MCl 39 7 = some (.aload_n 0, 8, 0, 0, 0) := by decide +kernel
theorem k39_8 : icode MCl 39 8 = some (.getfield 21, 11, 401, 162, 1) := by decide +kernel
theorem k39_11 : icode MCl 39 11 = some (.invokevirtual 32, 14, 18, 281, 0) := by decide +kernel
theorem k39_14 : icode MCl 39 14 = some (.aload_n 0, 15, 0, 0, 0) := by decide +kernel
theorem k39_15 : icode MCl 39 15 = some (.iconst 0, 16, 0, 0, 0) := by decide +kernel
theorem k39_16 : icode MCl 39 16 = some (.putfield 33, 19, 403, 165, 0) := by decide +kernel
theorem k39_19 : icode MCl 39 19 = some (.iconst 0, 20, 0, 0, 0) := by decide +kernel
theorem k39_20 : icode MCl 39 20 = some (.istore_n 1, 21, 0, 0, 0) := by decide +kernel
theorem k39_21 : icode MCl 39 21 = some (.iload_n 1, 22, 0, 0, 0) := by decide +kernel
theorem k39_22 : icode MCl 39 22 = some (.sipush 200, 25, 0, 0, 200) := by decide +kernel
theorem k39_25 : icode MCl 39 25 = some (.if_icmp .ge 37, 28, 62, 0, 0) := by decide +kernel
theorem k39_28 : icode MCl 39 28 = some (.aload_n 0, 29, 0, 0, 0) := by decide +kernel
theorem k39_29 : icode MCl 39 29 = some (.getfield 33, 32, 403, 165, 0) := by decide +kernel
theorem k39_32 : icode MCl 39 32 = some (.aload_n 0, 33, 0, 0, 0) := by decide +kernel
theorem k39_33 : icode MCl 39 33 = some (.getfield 25, 36, 402, 164, 1) := by decide +kernel
theorem k39_36 : icode MCl 39 36 = some (.invokevirtual 37, 39, 19, 285, 0) := by decide +kernel
theorem k39_39 : icode MCl 39 39 = some (.if_icmp .ge 23, 42, 62, 0, 0) := by decide +kernel
theorem k39_42 : icode MCl 39 42 = some (.aload_n 0, 43, 0, 0, 0) := by decide +kernel
theorem k39_43 : icode MCl 39 43 = some (.getfield 33, 46, 403, 165, 0) := by decide +kernel
theorem k39_46 : icode MCl 39 46 = some (.istore_n 2, 47, 0, 0, 0) := by decide +kernel
theorem k39_47 : icode MCl 39 47 = some (.aload_n 0, 48, 0, 0, 0) := by decide +kernel
theorem k39_48 : icode MCl 39 48 = some (.invokevirtual 43, 51, 38, 289, 0) := by decide +kernel
theorem k39_51 : icode MCl 39 51 = some (.ifCond .ne 5, 54, 56, 0, 0) := by decide +kernel
theorem k39_54 : icode MCl 39 54 = some (.iload_n 2, 55, 0, 0, 0) := by decide +kernel
theorem k39_55 : icode MCl 39 55 = some (.ireturn, 56, 0, 0, 0) := by decide +kernel
theorem k39_56 : icode MCl 39 56 = some (.iinc 1 1, 59, 0, 0, 1) := by decide +kernel
theorem k39_59 : icode MCl 39 59 = some (.goto (-38), 62, 21, 0, 0) := by decide +kernel
theorem k39_62 : icode MCl 39 62 = some (.bipush (-4), 64, 0, 0, (-4)) := by decide +kernel
theorem k39_64 : icode MCl 39 64 = some (.ireturn, 65, 0, 0, 0) := by decide +kernel
theorem k40_0 : icode MCl 40 0 = some (.iload_n 1, 1, 0, 0, 0) := by decide +kernel
theorem k40_1 : icode MCl 40 1 = some (.ifCond .lt 15, 4, 16, 0, 0) := by decide +kernel
theorem k40_4 : icode MCl 40 4 = some (.iload_n 1, 5, 0, 0, 0) := by decide +kernel
theorem k40_5 : icode MCl 40 5 = some (.aload_n 0, 6, 0, 0, 0) := by decide +kernel
theorem k40_6 : icode MCl 40 6 = some (.arraylength, 7, 0, 0, 0) := by decide +kernel
theorem k40_7 : icode MCl 40 7 = some (.if_icmp .ge 9, 10, 16, 0, 0) := by decide +kernel
theorem k40_10 : icode MCl 40 10 = some (.aload_n 0, 11, 0, 0, 0) := by decide +kernel
theorem k40_11 : icode MCl 40 11 = some (.iload_n 1, 12, 0, 0, 0) := by decide +kernel
theorem k40_12 : icode MCl 40 12 = some (.iaload, 13, 0, 0, 0) := by decide +kernel
theorem k40_13 : icode MCl 40 13 = some (.goto 4, 16, 17, 0, 0) := by decide +kernel
theorem k40_16 : icode MCl 40 16 = some (.iconst 0, 17, 0, 0, 0) := by decide +kernel
theorem k40_17 : icode MCl 40 17 = some (.ireturn, 18, 0, 0, 0) := by decide +kernel
theorem k41_0 : icode MCl 41 0 = some (.aload_n 0, 1, 0, 0, 0) := by decide +kernel
theorem k41_1 : icode MCl 41 1 = some (.getfield 9, 4, 600, 90, 1) := by decide +kernel
theorem k41_4 : icode MCl 41 4 = some (.iload_n 1, 5, 0, 0, 0) := by decide +kernel
theorem k41_5 : icode MCl 41 5 = some (.invokestatic 25, 8, 40, 377, 1) := by decide +kernel
theorem k41_8 : icode MCl 41 8 = some (.ireturn, 9, 0, 0, 0) := by decide +kernel
theorem k42_0 : icode MCl 42 0 = some (.aload_n 0, 1, 0, 0, 0) := by decide +kernel
theorem k42_1 : icode MCl 42 1 = some (.getfield 15, 4, 601, 91, 1) := by decide +kernel
theorem k42_4 : icode MCl 42 4 = some (.iload_n 1, 5, 0, 0, 0) := by decide +kernel
theorem k42_5 : icode MCl 42 5 = some (.invokestatic 25, 8, 40, 377, 1) := by decide +kernel
theorem k42_8 : icode MCl 42 8 = some (.ireturn, 9, 0, 0, 0) := by decide +kernel
theorem k43_0 : icode MCl 43 0 = some (.aload_n 0, 1, 0, 0, 0) := by decide +kernel
theorem k43_1 : icode MCl 43 1 = some (.getfield 18, 4, 602, 92, 1) := by decide +kernel
theorem k43_4 : icode MCl 43 4 = some (.iload_n 1, 5, 0, 0, 0) := by decide +kernel
theorem k43_5 : icode MCl 43 5 = some (.invokestatic 25, 8, 40, 377, 1) := by decide +kernel
theorem k43_8 : icode MCl 43 8 = some (.ireturn, 9, 0, 0, 0) := by decide +kernel
theorem k44_0 : icode MCl 44 0 = some (.aload_n 0, 1, 0, 0, 0) := by decide +kernel
theorem k44_1 : icode MCl 44 1 = some (.invokevirtual 41, 4, 17, 372, 0) := by decide +kernel
theorem k44_4 : icode MCl 44 4 = some (.iconst 0, 5, 0, 0, 0) := by decide +kernel
theorem k44_5 : icode MCl 44 5 = some (.istore_n 2, 6, 0, 0, 0) := by decide +kernel
theorem k44_6 : icode MCl 44 6 = some (.iload_n 2, 7, 0, 0, 0) := by decide +kernel
theorem k44_7 : icode MCl 44 7 = some (.aload_n 1, 8, 0, 0, 0) := by decide +kernel
theorem k44_8 : icode MCl 44 8 = some (.getfield 21, 11, 603, 93, 0) := by decide +kernel
theorem k44_11 : icode MCl 44 11 = some (.if_icmp .ge 29, 14, 40, 0, 0) := by decide +kernel
theorem k44_14 : icode MCl 44 14 = some (.aload_n 0, 15, 0, 0, 0) := by decide +kernel
theorem k44_15 : icode MCl 44 15 = some (.aload_n 1, 16, 0, 0, 0) := by decide +kernel
theorem k44_16 : icode MCl 44 16 = some (.iload_n 2, 17, 0, 0, 0) := by decide +kernel
theorem k44_17 : icode MCl 44 17 = some (.invokevirtual 44, 20, 41, 373, 0) := by decide +kernel
theorem k44_20 : icode MCl 44 20 = some (.aload_n 1, 21, 0, 0, 0) := by decide +kernel
theorem k44_21 : icode MCl 44 21 = some (.iload_n 2, 22, 0, 0, 0) := by decide +kernel
theorem k44_22 : icode MCl 44 22 = some (.invokevirtual 47, 25, 42, 380, 0) := by decide +kernel
theorem k44_25 : icode MCl 44 25 = some (.aload_n 1, 26, 0, 0, 0) := by decide +kernel
theorem k44_26 : icode MCl 44 26 = some (.iload_n 2, 27, 0, 0, 0) := by decide +kernel
theorem k44_27 : icode MCl 44 27 = some (.invokevirtual 29, 30, 43, 384, 0) := by decide +kernel
theorem k44_30 : icode MCl 44 30 = some (.invokevirtual 50, 33, 25, 388, 0) := by decide +kernel
theorem k44_33 : icode MCl 44 33 = some (.pop, 34, 0, 0, 0) := by decide +kernel
theorem k44_34 : icode MCl 44 34 = some (.iinc 2 1, 37, 0, 0, 1) := by decide +kernel
theorem k44_37 : icode MCl 44 37 = some (.goto (-31), 40, 6, 0, 0) := by decide +kernel
theorem k44_40 : icode MCl 44 40 = some (.return_, 41, 0, 0, 0) := by decide +kernel
theorem k45_0 : icode MCl 45 0 = some (.aload_n 0, 1, 0, 0, 0) := by decide +kernel
theorem k45_1 : icode MCl 45 1 = some (.aload_n 1, 2, 0, 0, 0) := by decide +kernel
theorem k45_2 : icode MCl 45 2 = some (.getfield 9, 5, 100, 116, 0) := by decide +kernel
theorem k45_5 : icode MCl 45 5 = some (.putfield 9, 8, 100, 116, 0) := by decide +kernel
theorem k45_8 : icode MCl 45 8 = some (.aload_n 0, 9, 0, 0, 0) := by decide +kernel
theorem k45_9 : icode MCl 45 9 = some (.aload_n 1, 10, 0, 0, 0) := by decide +kernel
theorem k45_10 : icode MCl 45 10 = some (.getfield 15, 13, 101, 118, 0) := by decide +kernel
theorem k45_13 : icode MCl 45 13 = some (.putfield 15, 16, 101, 118, 0) := by decide +kernel
theorem k45_16 : icode MCl 45 16 = some (.aload_n 0, 17, 0, 0, 0) := by decide +kernel
theorem k45_17 : icode MCl 45 17 = some (.aload_n 1, 18, 0, 0, 0) := by decide +kernel
theorem k45_18 : icode MCl 45 18 = some (.getfield 18, 21, 102, 121, 0) := by decide +kernel
theorem k45_21 : icode MCl 45 21 = some (.putfield 18, 24, 102, 121, 0) := by decide +kernel
theorem k45_24 : icode MCl 45 24 = some (.aload_n 0, 25, 0, 0, 0) := by decide +kernel
theorem k45_25 : icode MCl 45 25 = some (.aload_n 1, 26, 0, 0, 0) := by decide +kernel
theorem k45_26 : icode MCl 45 26 = some (.getfield 21, 29, 103, 124, 0) := by decide +kernel
theorem k45_29 : icode MCl 45 29 = some (.putfield 21, 32, 103, 124, 0) := by decide +kernel
theorem k45_32 : icode MCl 45 32 = some (.aload_n 0, 33, 0, 0, 0) := by decide +kernel
theorem k45_33 : icode MCl 45 33 = some (.aload_n 1, 34, 0, 0, 0) := by decide +kernel
theorem k45_34 : icode MCl 45 34 = some (.getfield 24, 37, 104, 127, 0) := by decide +kernel
theorem k45_37 : icode MCl 45 37 = some (.putfield 24, 40, 104, 127, 0) := by decide +kernel
theorem k45_40 : icode MCl 45 40 = some (.aload_n 0, 41, 0, 0, 0) := by decide +kernel
theorem k45_41 : icode MCl 45 41 = some (.aload_n 1, 42, 0, 0, 0) := by decide +kernel
theorem k45_42 : icode MCl 45 42 = some (.getfield 27, 45, 105, 129, 0) := by decide +kernel
theorem k45_45 : icode MCl 45 45 = some (.putfield 27, 48, 105, 129, 0) := by decide +kernel
theorem k45_48 : icode MCl 45 48 = some (.return_, 49, 0, 0, 0) := by decide +kernel
theorem k46_0 : icode MCl 46 0 = some (.aload_n 0, 1, 0, 0, 0) := by decide +kernel
theorem k46_1 : icode MCl 46 1 = some (.aload_n 1, 2, 0, 0, 0) := by decide +kernel
theorem k46_2 : icode MCl 46 2 = some (.getfield 22, 5, 202, 146, 0) := by decide +kernel
theorem k46_5 : icode MCl 46 5 = some (.putfield 22, 8, 202, 146, 0) := by decide +kernel
theorem k46_8 : icode MCl 46 8 = some (.aload_n 0, 9, 0, 0, 0) := by decide +kernel
theorem k46_9 : icode MCl 46 9 = some (.aload_n 1, 10, 0, 0, 0) := by decide +kernel
theorem k46_10 : icode MCl 46 10 = some (.getfield 26, 13, 203, 147, 0) := by decide +kernel
theorem k46_13 : icode MCl 46 13 = some (.putfield 26, 16, 203, 147, 0) := by decide +kernel
theorem k46_16 : icode MCl 46 16 = some (.aload_n 0, 17, 0, 0, 0) := by decide +kernel
theorem k46_17 : icode MCl 46 17 = some (.aload_n 1, 18, 0, 0, 0) := by decide +kernel
theorem k46_18 : icode MCl 46 18 = some (.getfield 29, 21, 204, 148, 0) := by decide +kernel
theorem k46_21 : icode MCl 46 21 = some (.putfield 29, 24, 204, 148, 0) := by decide +kernel
theorem k46_24 : icode MCl 46 24 = some (.iconst 0, 25, 0, 0, 0) := by decide +kernel
theorem k46_25 : icode MCl 46 25 = some (.istore_n 2, 26, 0, 0, 0) := by decide +kernel
theorem k46_26 : icode MCl 46 26 = some (.iload_n 2, 27, 0, 0, 0) := by decide +kernel
theorem k46_27 : icode MCl 46 27 = some (.aload_n 0, 28, 0, 0, 0) := by decide +kernel
theorem k46_28 : icode MCl 46 28 = some (.getfield 22, 31, 202, 146, 0) := by decide +kernel
theorem k46_31 : icode MCl 46 31 = some (.if_icmp .ge 22, 34, 53, 0, 0) := by decide +kernel
theorem k46_34 : icode MCl 46 34 = some (.aload_n 0, 35, 0, 0, 0) := by decide +kernel
theorem k46_35 : icode MCl 46 35 = some (.iload_n 2, 36, 0, 0, 0) := by decide +kernel
theorem k46_36 : icode MCl 46 36 = some (.invokevirtual 32, 39, 30, 341, 0) := by decide +kernel
theorem k46_39 : icode MCl 46 39 = some (.aload_n 1, 40, 0, 0, 0) := by decide +kernel
theorem k46_40 : icode MCl 46 40 = some (.iload_n 2, 41, 0, 0, 0) := by decide +kernel
theorem k46_41 : icode MCl 46 41 = some (.invokevirtual 32, 44, 30, 341, 0) := by decide +kernel
theorem k46_44 : icode MCl 46 44 = some (.invokevirtual 36, 47, 45, 393, 0) := by decide +kernel
theorem k46_47 : icode MCl 46 47 = some (.iinc 2 1, 50, 0, 0, 1) := by decide +kernel
theorem k46_50 : icode MCl 46 50 = some (.goto (-24), 53, 26, 0, 0) := by decide +kernel
theorem k46_53 : icode MCl 46 53 = some (.return_, 54, 0, 0, 0) := by decide +kernel
theorem k47_0 : icode MCl 47 0 = some (.aload_n 0, 1, 0, 0, 0) := by decide +kernel
theorem k47_1 : icode MCl 47 1 = some (.iconst 0, 2, 0, 0, 0) := by decide +kernel
theorem k47_2 : icode MCl 47 2 = some (.putfield 21, 5, 503, 207, 0) := by decide +kernel
theorem k47_5 : icode MCl 47 5 = some (.return_, 6, 0, 0, 0) := by decide +kernel
theorem k48_0 : icode MCl 48 0 = some (.aload_n 0, 1, 0, 0, 0) := by decide +kernel
theorem k48_1 : icode MCl 48 1 = some (.iconst 0, 2, 0, 0, 0) := by decide +kernel
theorem k48_2 : icode MCl 48 2 = some (.putfield 22, 5, 301, 192, 0) := by decide +kernel
theorem k48_5 : icode MCl 48 5 = some (.return_, 6, 0, 0, 0) := by decide +kernel
theorem k49_0 : icode MCl 49 0 = some (.aload_n 0, 1, 0, 0, 0) := by decide +kernel
theorem k49_1 : icode MCl 49 1 = some (.getfield 28, 4, 702, 411, 1) := by decide +kernel
theorem k49_4 : icode MCl 49 4 = some (.aload_n 0, 5, 0, 0, 0) := by decide +kernel
theorem k49_5 : icode MCl 49 5 = some (.getfield 21, 8, 701, 410, 1) := by decide +kernel
theorem k49_8 : icode MCl 49 8 = some (.getfield 91, 11, 400, 161, 1) := by decide +kernel
theorem k49_11 : icode MCl 49 11 = some (.invokevirtual 241, 14, 44, 368, 0) := by decide +kernel
theorem k49_14 : icode MCl 49 14 = some (.aload_n 0, 15, 0, 0, 0) := by decide +kernel
theorem k49_15 : icode MCl 49 15 = some (.getfield 35, 18, 703, 412, 1) := by decide +kernel
theorem k49_18 : icode MCl 49 18 = some (.aload_n 0, 19, 0, 0, 0) := by decide +kernel
theorem k49_19 : icode MCl 49 19 = some (.getfield 21, 22, 701, 410, 1) := by decide +kernel
theorem k49_22 : icode MCl 49 22 = some (.getfield 243, 25, 401, 163, 1) := by decide +kernel
theorem k49_25 : icode MCl 49 25 = some (.invokevirtual 195, 28, 46, 389, 0) := by decide +kernel
theorem k49_28 : icode MCl 49 28 = some (.aload_n 0, 29, 0, 0, 0) := by decide +kernel
theorem k49_29 : icode MCl 49 29 = some (.getfield 57, 32, 707, 416, 1) := by decide +kernel
theorem k49_32 : icode MCl 49 32 = some (.invokevirtual 207, 35, 47, 397, 0) := by decide +kernel
theorem k49_35 : icode MCl 49 35 = some (.aload_n 0, 36, 0, 0, 0) := by decide +kernel
theorem k49_36 : icode MCl 49 36 = some (.getfield 47, 39, 705, 414, 1) := by decide +kernel
theorem k49_39 : icode MCl 49 39 = some (.invokevirtual 237, 42, 48, 401, 0) := by decide +kernel
theorem k49_42 : icode MCl 49 42 = some (.aload_n 0, 43, 0, 0, 0) := by decide +kernel
theorem k49_43 : icode MCl 49 43 = some (.getfield 51, 46, 706, 415, 1) := by decide +kernel
theorem k49_46 : icode MCl 49 46 = some (.invokevirtual 237, 49, 48, 401, 0) := by decide +kernel
theorem k49_49 : icode MCl 49 49 = some (.return_, 50, 0, 0, 0) := by decide +kernel
theorem k50_0 : icode MCl 50 0 = some (.aload_n 0, 1, 0, 0, 0) := by decide +kernel
theorem k50_1 : icode MCl 50 1 = some (.iconst 0, 2, 0, 0, 0) := by decide +kernel
theorem k50_2 : icode MCl 50 2 = some (.putfield 15, 5, 1, 71, 0) := by decide +kernel
theorem k50_5 : icode MCl 50 5 = some (.return_, 6, 0, 0, 0) := by decide +kernel
theorem k51_0 : icode MCl 51 0 = some (.aload_n 0, 1, 0, 0, 0) := by decide +kernel
theorem k51_1 : icode MCl 51 1 = some (.invokespecial 1, 4, 9999, 61, 0) := by decide +kernel
theorem k51_4 : icode MCl 51 4 = some (.aload_n 0, 5, 0, 0, 0) := by decide +kernel
theorem k51_5 : icode MCl 51 5 = some (.new 7, 8, 0, 64, 0) := by decide +kernel
theorem k51_8 : icode MCl 51 8 = some (.dup, 9, 0, 0, 0) := by decide +kernel
theorem k51_9 : icode MCl 51 9 = some (.invokespecial 9, 12, 0, 66, 1) := by decide +kernel
theorem k51_12 : icode MCl 51 12 = some (.putfield 10, 15, 700, 409, 1) := by decide +kernel
theorem k51_15 : icode MCl 51 15 = some (.aload_n 0, 16, 0, 0, 0) := by decide +kernel
theorem k51_16 : icode MCl 51 16 = some (.new 16, 19, 4, 78, 0) := by decide +kernel
theorem k51_19 : icode MCl 51 19 = some (.dup, 20, 0, 0, 0) := by decide +kernel
theorem k51_20 : icode MCl 51 20 = some (.aload_n 0, 21, 0, 0, 0) := by decide +kernel
theorem k51_21 : icode MCl 51 21 = some (.getfield 10, 24, 700, 409, 1) := by decide +kernel
theorem k51_24 : icode MCl 51 24 = some (.invokespecial 18, 27, 4, 80, 0) := by decide +kernel
theorem k51_27 : icode MCl 51 27 = some (.putfield 21, 30, 701, 410, 1) := by decide +kernel
theorem k51_30 : icode MCl 51 30 = some (.aload_n 0, 31, 0, 0, 0) := by decide +kernel
theorem k51_31 : icode MCl 51 31 = some (.new 25, 34, 6, 175, 0) := by decide +kernel
theorem k51_34 : icode MCl 51 34 = some (.dup, 35, 0, 0, 0) := by decide +kernel
theorem k51_35 : icode MCl 51 35 = some (.invokespecial 27, 38, 1, 176, 1) := by decide +kernel
theorem k51_38 : icode MCl 51 38 = some (.putfield 28, 41, 702, 411, 1) := by decide +kernel
theorem k51_41 : icode MCl 51 41 = some (.aload_n 0, 42, 0, 0, 0) := by decide +kernel
theorem k51_42 : icode MCl 51 42 = some (.new 32, 45, 2, 177, 0) := by decide +kernel
theorem k51_45 : icode MCl 51 45 = some (.dup, 46, 0, 0, 0) := by decide +kernel
theorem k51_46 : icode MCl 51 46 = some (.invokespecial 34, 49, 3, 178, 0) := by decide +kernel
theorem k51_49 : icode MCl 51 49 = some (.putfield 35, 52, 703, 412, 1) := by decide +kernel
theorem k51_52 : icode MCl 51 52 = some (.aload_n 0, 53, 0, 0, 0) := by decide +kernel
theorem k51_53 : icode MCl 51 53 = some (.new 32, 56, 2, 177, 0) := by decide +kernel
theorem k51_56 : icode MCl 51 56 = some (.dup, 57, 0, 0, 0) := by decide +kernel
theorem k51_57 : icode MCl 51 57 = some (.invokespecial 34, 60, 3, 178, 0) := by decide +kernel
theorem k51_60 : icode MCl 51 60 = some (.putfield 39, 63, 704, 413, 1) := by decide +kernel
theorem k51_63 : icode MCl 51 63 = some (.aload_n 0, 64, 0, 0, 0) := by decide +kernel
theorem k51_64 : icode MCl 51 64 = some (.new 42, 67, 3, 179, 0) := by decide +kernel
theorem k51_67 : icode MCl 51 67 = some (.dup, 68, 0, 0, 0) := by decide +kernel
theorem k51_68 : icode MCl 51 68 = some (.bipush 8, 70, 0, 0, 8) := by decide +kernel
theorem k51_70 : icode MCl 51 70 = some (.invokespecial 44, 73, 6, 181, 0) := by decide +kernel
theorem k51_73 : icode MCl 51 73 = some (.putfield 47, 76, 705, 414, 1) := by decide +kernel
theorem k51_76 : icode MCl 51 76 = some (.aload_n 0, 77, 0, 0, 0) := by decide +kernel
theorem k51_77 : icode MCl 51 77 = some (.new 42, 80, 3, 179, 0) := by decide +kernel
theorem k51_80 : icode MCl 51 80 = some (.dup, 81, 0, 0, 0) := by decide +kernel
theorem k51_81 : icode MCl 51 81 = some (.iconst 2, 82, 0, 0, 2) := by decide +kernel
theorem k51_82 : icode MCl 51 82 = some (.invokespecial 44, 85, 6, 181, 0) := by decide +kernel
theorem k51_85 : icode MCl 51 85 = some (.putfield 51, 88, 706, 415, 1) := by decide +kernel
theorem k51_88 : icode MCl 51 88 = some (.aload_n 0, 89, 0, 0, 0) := by decide +kernel
theorem k51_89 : icode MCl 51 89 = some (.new 54, 92, 5, 198, 0) := by decide +kernel
theorem k51_92 : icode MCl 51 92 = some (.dup, 93, 0, 0, 0) := by decide +kernel
theorem k51_93 : icode MCl 51 93 = some (.invokespecial 56, 96, 7, 200, 1) := by decide +kernel
theorem k51_96 : icode MCl 51 96 = some (.putfield 57, 99, 707, 416, 1) := by decide +kernel
theorem k51_99 : icode MCl 51 99 = some (.iconst 0, 100, 0, 0, 0) := by decide +kernel
theorem k51_100 : icode MCl 51 100 = some (.istore_n 1, 101, 0, 0, 0) := by decide +kernel
theorem k51_101 : icode MCl 51 101 = some (.iload_n 1, 102, 0, 0, 0) := by decide +kernel
theorem k51_102 : icode MCl 51 102 = some (.ldc 61, 104, 1, 217, 0) := by decide +kernel
theorem k51_104 : icode MCl 51 104 = some (.invokevirtual 63, 107, 9, 218, 0) := by decide +kernel
theorem k51_107 : icode MCl 51 107 = some (.if_icmp .ge 23, 110, 130, 0, 0) := by decide +kernel
theorem k51_110 : icode MCl 51 110 = some (.aload_n 0, 111, 0, 0, 0) := by decide +kernel
theorem k51_111 : icode MCl 51 111 = some (.getfield 10, 114, 700, 409, 1) := by decide +kernel
theorem k51_114 : icode MCl 51 114 = some (.ldc 61, 116, 1, 217, 0) := by decide +kernel
theorem k51_116 : icode MCl 51 116 = some (.iload_n 1, 117, 0, 0, 0) := by decide +kernel
theorem k51_117 : icode MCl 51 117 = some (.invokevirtual 69, 120, 14, 228, 0) := by decide +kernel
theorem k51_120 : icode MCl 51 120 = some (.invokevirtual 73, 123, 16, 266, 0) := by decide +kernel
theorem k51_123 : icode MCl 51 123 = some (.pop, 124, 0, 0, 0) := by decide +kernel
theorem k51_124 : icode MCl 51 124 = some (.iinc 1 1, 127, 0, 0, 1) := by decide +kernel
theorem k51_127 : icode MCl 51 127 = some (.goto (-26), 130, 101, 0, 0) := by decide +kernel
theorem k51_130 : icode MCl 51 130 = some (.aload_n 0, 131, 0, 0, 0) := by decide +kernel
theorem k51_131 : icode MCl 51 131 = some (.getfield 21, 134, 701, 410, 1) := by decide +kernel
theorem k51_134 : icode MCl 51 134 = some (.invokevirtual 77, 137, 39, 273, 0) := by decide +kernel
theorem k51_137 : icode MCl 51 137 = some (.bipush (-4), 139, 0, 0, (-4)) := by decide +kernel
theorem k51_139 : icode MCl 51 139 = some (.if_icmp .ne 7, 142, 146, 0, 0) := by decide +kernel
theorem k51_142 : icode MCl 51 142 = some (.aload_n 0, 143, 0, 0, 0) := by decide +kernel
theorem k51_143 : icode MCl 51 143 = some (.invokevirtual 80, 146, 49, 364, 0) := by decide +kernel
theorem k51_146 : icode MCl 51 146 = some (.aload_n 0, 147, 0, 0, 0) := by decide +kernel
theorem k51_147 : icode MCl 51 147 = some (.getfield 10, 150, 700, 409, 1) := by decide +kernel
theorem k51_150 : icode MCl 51 150 = some (.invokevirtual 83, 153, 50, 405, 0) := by decide +kernel
theorem k51_153 : icode MCl 51 153 = some (.return_, 154, 0, 0, 0) := by decide +kernel
theorem k52_0 : icode MCl 52 0 = some (.aload_n 0, 1, 0, 0, 0) := by decide +kernel
theorem k52_1 : icode MCl 52 1 = some (.iconst 0, 2, 0, 0, 0) := by decide +kernel
theorem k52_2 : icode MCl 52 2 = some (.putfield 84, 5, 803, 778, 0) := by decide +kernel
theorem k52_5 : icode MCl 52 5 = some (.aload_n 0, 6, 0, 0, 0) := by decide +kernel
theorem k52_6 : icode MCl 52 6 = some (.iconst 0, 7, 0, 0, 0) := by decide +kernel
theorem k52_7 : icode MCl 52 7 = some (.putfield 87, 10, 804, 779, 0) := by decide +kernel
theorem k52_10 : icode MCl 52 10 = some (.aload_n 0, 11, 0, 0, 0) := by decide +kernel
theorem k52_11 : icode MCl 52 11 = some (.iconst 0, 12, 0, 0, 0) := by decide +kernel
theorem k52_12 : icode MCl 52 12 = some (.putfield 65, 15, 805, 780, 0) := by decide +kernel
theorem k52_15 : icode MCl 52 15 = some (.return_, 16, 0, 0, 0) := by decide +kernel
theorem k53_0 : icode MCl 53 0 = some (.aload_n 0, 1, 0, 0, 0) := by decide +kernel
theorem k53_1 : icode MCl 53 1 = some (.getfield 13, 4, 806, 781, 1) := by decide +kernel
theorem k53_4 : icode MCl 53 4 = some (.aload_n 0, 5, 0, 0, 0) := by decide +kernel
theorem k53_5 : icode MCl 53 5 = some (.getfield 84, 8, 803, 778, 0) := by decide +kernel
theorem k53_8 : icode MCl 53 8 = some (.iload_n 1, 9, 0, 0, 0) := by decide +kernel
theorem k53_9 : icode MCl 53 9 = some (.iastore, 10, 0, 0, 0) := by decide +kernel
theorem k53_10 : icode MCl 53 10 = some (.aload_n 0, 11, 0, 0, 0) := by decide +kernel
theorem k53_11 : icode MCl 53 11 = some (.getfield 16, 14, 807, 782, 1) := by decide +kernel
theorem k53_14 : icode MCl 53 14 = some (.aload_n 0, 15, 0, 0, 0) := by decide +kernel
theorem k53_15 : icode MCl 53 15 = some (.getfield 84, 18, 803, 778, 0) := by decide +kernel
theorem k53_18 : icode MCl 53 18 = some (.iload_n 2, 19, 0, 0, 0) := by decide +kernel
theorem k53_19 : icode MCl 53 19 = some (.iastore, 20, 0, 0, 0) := by decide +kernel
theorem k53_20 : icode MCl 53 20 = some (.aload_n 0, 21, 0, 0, 0) := by decide +kernel
theorem k53_21 : icode MCl 53 21 = some (.getfield 19, 24, 808, 783, 1) := by decide +kernel
theorem k53_24 : icode MCl 53 24 = some (.aload_n 0, 25, 0, 0, 0) := by decide +kernel
theorem k53_25 : icode MCl 53 25 = some (.getfield 84, 28, 803, 778, 0) := by decide +kernel
theorem k53_28 : icode MCl 53 28 = some (.iload_n 3, 29, 0, 0, 0) := by decide +kernel
theorem k53_29 : icode MCl 53 29 = some (.iastore, 30, 0, 0, 0) := by decide +kernel
theorem k53_30 : icode MCl 53 30 = some (.aload_n 0, 31, 0, 0, 0) := by decide +kernel
theorem k53_31 : icode MCl 53 31 = some (.dup, 32, 0, 0, 0) := by decide +kernel
theorem k53_32 : icode MCl 53 32 = some (.getfield 84, 35, 803, 778, 0) := by decide +kernel
theorem k53_35 : icode MCl 53 35 = some (.iconst 1, 36, 0, 0, 1) := by decide +kernel
theorem k53_36 : icode MCl 53 36 = some (.iadd, 37, 0, 0, 0) := by decide +kernel
theorem k53_37 : icode MCl 53 37 = some (.putfield 84, 40, 803, 778, 0) := by decide +kernel
theorem k53_40 : icode MCl 53 40 = some (.return_, 41, 0, 0, 0) := by decide +kernel
theorem k54_0 : icode MCl 54 0 = some (.aload_n 0, 1, 0, 0, 0) := by decide +kernel
theorem k54_1 : icode MCl 54 1 = some (.getfield 22, 4, 809, 784, 1) := by decide +kernel
theorem k54_4 : icode MCl 54 4 = some (.aload_n 0, 5, 0, 0, 0) := by decide +kernel
theorem k54_5 : icode MCl 54 5 = some (.getfield 87, 8, 804, 779, 0) := by decide +kernel
theorem k54_8 : icode MCl 54 8 = some (.iload_n 1, 9, 0, 0, 0) := by decide +kernel
theorem k54_9 : icode MCl 54 9 = some (.iastore, 10, 0, 0, 0) := by decide +kernel
theorem k54_10 : icode MCl 54 10 = some (.aload_n 0, 11, 0, 0, 0) := by decide +kernel
theorem k54_11 : icode MCl 54 11 = some (.getfield 25, 14, 810, 785, 1) := by decide +kernel
theorem k54_14 : icode MCl 54 14 = some (.aload_n 0, 15, 0, 0, 0) := by decide +kernel
theorem k54_15 : icode MCl 54 15 = some (.getfield 87, 18, 804, 779, 0) := by decide +kernel
theorem k54_18 : icode MCl 54 18 = some (.iload_n 2, 19, 0, 0, 0) := by decide +kernel
theorem k54_19 : icode MCl 54 19 = some (.iastore, 20, 0, 0, 0) := by decide +kernel
theorem k54_20 : icode MCl 54 20 = some (.aload_n 0, 21, 0, 0, 0) := by decide +kernel
theorem k54_21 : icode MCl 54 21 = some (.getfield 28, 24, 811, 786, 1) := by decide +kernel
theorem k54_24 : icode MCl 54 24 = some (.aload_n 0, 25, 0, 0, 0) := by decide +kernel
theorem k54_25 : icode MCl 54 25 = some (.getfield 87, 28, 804, 779, 0) := by decide +kernel
theorem k54_28 : icode MCl 54 28 = some (.iload_n 3, 29, 0, 0, 0) := by decide +kernel
theorem k54_29 : icode MCl 54 29 = some (.iastore, 30, 0, 0, 0) := by decide +kernel
theorem k54_30 : icode MCl 54 30 = some (.aload_n 0, 31, 0, 0, 0) := by decide +kernel
theorem k54_31 : icode MCl 54 31 = some (.dup, 32, 0, 0, 0) := by decide +kernel
theorem k54_32 : icode MCl 54 32 = some (.getfield 87, 35, 804, 779, 0) := by decide +kernel
theorem k54_35 : icode MCl 54 35 = some (.iconst 1, 36, 0, 0, 1) := by decide +kernel
theorem k54_36 : icode MCl 54 36 = some (.iadd, 37, 0, 0, 0) := by decide +kernel
theorem k54_37 : icode MCl 54 37 = some (.putfield 87, 40, 804, 779, 0) := by decide +kernel
theorem k54_40 : icode MCl 54 40 = some (.return_, 41, 0, 0, 0) := by decide +kernel
theorem k55_0 : icode MCl 55 0 = some (.iconst 3, 1, 0, 0, 3) := by decide +kernel
theorem k55_1 : icode MCl 55 1 = some (.bipush 6, 3, 0, 0, 6) := by decide +kernel
theorem k55_3 : icode MCl 55 3 = some (.aload_n 0, 4, 0, 0, 0) := by decide +kernel
theorem k55_4 : icode MCl 55 4 = some (.iconst 2, 5, 0, 0, 2) := by decide +kernel
theorem k55_5 : icode MCl 55 5 = some (.iaload, 6, 0, 0, 0) := by decide +kernel
theorem k55_6 : icode MCl 55 6 = some (.imul, 7, 0, 0, 0) := by decide +kernel
theorem k55_7 : icode MCl 55 7 = some (.iadd, 8, 0, 0, 0) := by decide +kernel
theorem k55_8 : icode MCl 55 8 = some (.istore 4, 10, 0, 0, 0) := by decide +kernel
theorem k55_10 : icode MCl 55 10 = some (.aload_n 0, 11, 0, 0, 0) := by decide +kernel
theorem k55_11 : icode MCl 55 11 = some (.iload 4, 13, 0, 0, 0) := by decide +kernel
theorem k55_13 : icode MCl 55 13 = some (.iconst 0, 14, 0, 0, 0) := by decide +kernel
theorem k55_14 : icode MCl 55 14 = some (.iadd, 15, 0, 0, 0) := by decide +kernel
theorem k55_15 : icode MCl 55 15 = some (.iload_n 2, 16, 0, 0, 0) := by decide +kernel
theorem k55_16 : icode MCl 55 16 = some (.iastore, 17, 0, 0, 0) := by decide +kernel
theorem k55_17 : icode MCl 55 17 = some (.aload_n 0, 18, 0, 0, 0) := by decide +kernel
theorem k55_18 : icode MCl 55 18 = some (.iload 4, 20, 0, 0, 0) := by decide +kernel
theorem k55_20 : icode MCl 55 20 = some (.iconst 1, 21, 0, 0, 1) := by decide +kernel
theorem k55_21 : icode MCl 55 21 = some (.iadd, 22, 0, 0, 0) := by decide +kernel
theorem k55_22 : icode MCl 55 22 = some (.iconst 0, 23, 0, 0, 0) := by decide +kernel
theorem k55_23 : icode MCl 55 23 = some (.iastore, 24, 0, 0, 0) := by decide +kernel
theorem k55_24 : icode MCl 55 24 = some (.aload_n 0, 25, 0, 0, 0) := by decide +kernel
theorem k55_25 : icode MCl 55 25 = some (.iload 4, 27, 0, 0, 0) := by decide +kernel
theorem k55_27 : icode MCl 55 27 = some (.iconst 2, 28, 0, 0, 2) := by decide +kernel
theorem k55_28 : icode MCl 55 28 = some (.iadd, 29, 0, 0, 0) := by decide +kernel
theorem k55_29 : icode MCl 55 29 = some (.iload_n 1, 30, 0, 0, 0) := by decide +kernel
theorem k55_30 : icode MCl 55 30 = some (.iastore, 31, 0, 0, 0) := by decide +kernel
theorem k55_31 : icode MCl 55 31 = some (.aload_n 0, 32, 0, 0, 0) := by decide +kernel
theorem k55_32 : icode MCl 55 32 = some (.iload 4, 34, 0, 0, 0) := by decide +kernel
theorem k55_34 : icode MCl 55 34 = some (.iconst 3, 35, 0, 0, 3) := by decide +kernel
theorem k55_35 : icode MCl 55 35 = some (.iadd, 36, 0, 0, 0) := by decide +kernel
theorem k55_36 : icode MCl 55 36 = some (.iload_n 3, 37, 0, 0, 0) := by decide +kernel
theorem k55_37 : icode MCl 55 37 = some (.iastore, 38, 0, 0, 0) := by decide +kernel
theorem k55_38 : icode MCl 55 38 = some (.aload_n 0, 39, 0, 0, 0) := by decide +kernel
theorem k55_39 : icode MCl 55 39 = some (.iload 4, 41, 0, 0, 0) := by decide +kernel
theorem k55_41 : icode MCl 55 41 = some (.iconst 4, 42, 0, 0, 4) := by decide +kernel
theorem k55_42 : icode MCl 55 42 = some (.iadd, 43, 0, 0, 0) := by decide +kernel
theorem k55_43 : icode MCl 55 43 = some (.iconst 0, 44, 0, 0, 0) := by decide +kernel
theorem k55_44 : icode MCl 55 44 = some (.iastore, 45, 0, 0, 0) := by decide +kernel
theorem k55_45 : icode MCl 55 45 = some (.aload_n 0, 46, 0, 0, 0) := by decide +kernel
theorem k55_46 : icode MCl 55 46 = some (.iload 4, 48, 0, 0, 0) := by decide +kernel
theorem k55_48 : icode MCl 55 48 = some (.iconst 5, 49, 0, 0, 5) := by decide +kernel
theorem k55_49 : icode MCl 55 49 = some (.iadd, 50, 0, 0, 0) := by decide +kernel
theorem k55_50 : icode MCl 55 50 = some (.bipush (-4), 52, 0, 0, (-4)) := by decide +kernel
theorem k55_52 : icode MCl 55 52 = some (.iastore, 53, 0, 0, 0) := by decide +kernel
theorem k55_53 : icode MCl 55 53 = some (.aload_n 0, 54, 0, 0, 0) := by decide +kernel
theorem k55_54 : icode MCl 55 54 = some (.iconst 2, 55, 0, 0, 2) := by decide +kernel
theorem k55_55 : icode MCl 55 55 = some (.dup2, 56, 0, 0, 0) := by decide +kernel
theorem k55_56 : icode MCl 55 56 = some (.iaload, 57, 0, 0, 0) := by decide +kernel
theorem k55_57 : icode MCl 55 57 = some (.iconst 1, 58, 0, 0, 1) := by decide +kernel
theorem k55_58 : icode MCl 55 58 = some (.iadd, 59, 0, 0, 0) := by decide +kernel
theorem k55_59 : icode MCl 55 59 = some (.iastore, 60, 0, 0, 0) := by decide +kernel
theorem k55_60 : icode MCl 55 60 = some (.return_, 61, 0, 0, 0) := by decide +kernel
theorem k56_0 : icode MCl 56 0 = some (.aload_n 0, 1, 0, 0, 0) := by decide +kernel
theorem k56_1 : icode MCl 56 1 = some (.aload_n 0, 2, 0, 0, 0) := by decide +kernel
theorem k56_2 : icode MCl 56 2 = some (.getfield 84, 5, 803, 778, 0) := by decide +kernel
theorem k56_5 : icode MCl 56 5 = some (.putfield 119, 8, 812, 787, 0) := by decide +kernel
theorem k56_8 : icode MCl 56 8 = some (.iconst 0, 9, 0, 0, 0) := by decide +kernel
theorem k56_9 : icode MCl 56 9 = some (.istore_n 1, 10, 0, 0, 0) := by decide +kernel
theorem k56_10 : icode MCl 56 10 = some (.iload_n 1, 11, 0, 0, 0) := by decide +kernel
theorem k56_11 : icode MCl 56 11 = some (.bipush 9, 13, 0, 0, 9) := by decide +kernel
theorem k56_13 : icode MCl 56 13 = some (.if_icmp .ge 45, 16, 58, 0, 0) := by decide +kernel
theorem k56_16 : icode MCl 56 16 = some (.aload_n 0, 17, 0, 0, 0) := by decide +kernel
theorem k56_17 : icode MCl 56 17 = some (.getfield 31, 20, 813, 788, 1) := by decide +kernel
theorem k56_20 : icode MCl 56 20 = some (.iload_n 1, 21, 0, 0, 0) := by decide +kernel
theorem k56_21 : icode MCl 56 21 = some (.aload_n 0, 22, 0, 0, 0) := by decide +kernel
theorem k56_22 : icode MCl 56 22 = some (.getfield 13, 25, 806, 781, 1) := by decide +kernel
theorem k56_25 : icode MCl 56 25 = some (.iload_n 1, 26, 0, 0, 0) := by decide +kernel
theorem k56_26 : icode MCl 56 26 = some (.iaload, 27, 0, 0, 0) := by decide +kernel
theorem k56_27 : icode MCl 56 27 = some (.iastore, 28, 0, 0, 0) := by decide +kernel
theorem k56_28 : icode MCl 56 28 = some (.aload_n 0, 29, 0, 0, 0) := by decide +kernel
theorem k56_29 : icode MCl 56 29 = some (.getfield 34, 32, 814, 789, 1) := by decide +kernel
theorem k56_32 : icode MCl 56 32 = some (.iload_n 1, 33, 0, 0, 0) := by decide +kernel
theorem k56_33 : icode MCl 56 33 = some (.aload_n 0, 34, 0, 0, 0) := by decide +kernel
theorem k56_34 : icode MCl 56 34 = some (.getfield 16, 37, 807, 782, 1) := by decide +kernel
theorem k56_37 : icode MCl 56 37 = some (.iload_n 1, 38, 0, 0, 0) := by decide +kernel
theorem k56_38 : icode MCl 56 38 = some (.iaload, 39, 0, 0, 0) := by decide +kernel
theorem k56_39 : icode MCl 56 39 = some (.iastore, 40, 0, 0, 0) := by decide +kernel
theorem k56_40 : icode MCl 56 40 = some (.aload_n 0, 41, 0, 0, 0) := by decide +kernel
theorem k56_41 : icode MCl 56 41 = some (.getfield 37, 44, 815, 790, 1) := by decide +kernel
theorem k56_44 : icode MCl 56 44 = some (.iload_n 1, 45, 0, 0, 0) := by decide +kernel
theorem k56_45 : icode MCl 56 45 = some (.aload_n 0, 46, 0, 0, 0) := by decide +kernel
theorem k56_46 : icode MCl 56 46 = some (.getfield 19, 49, 808, 783, 1) := by decide +kernel
theorem k56_49 : icode MCl 56 49 = some (.iload_n 1, 50, 0, 0, 0) := by decide +kernel
theorem k56_50 : icode MCl 56 50 = some (.iaload, 51, 0, 0, 0) := by decide +kernel
theorem k56_51 : icode MCl 56 51 = some (.iastore, 52, 0, 0, 0) := by decide +kernel
theorem k56_52 : icode MCl 56 52 = some (.iinc 1 1, 55, 0, 0, 1) := by decide +kernel
theorem k56_55 : icode MCl 56 55 = some (.goto (-45), 58, 10, 0, 0) := by decide +kernel
theorem k56_58 : icode MCl 56 58 = some (.iconst 0, 59, 0, 0, 0) := by decide +kernel
theorem k56_59 : icode MCl 56 59 = some (.istore_n 1, 60, 0, 0, 0) := by decide +kernel
theorem k56_60 : icode MCl 56 60 = some (.iload_n 1, 61, 0, 0, 0) := by decide +kernel
theorem k56_61 : icode MCl 56 61 = some (.bipush 39, 63, 0, 0, 39) := by decide +kernel
theorem k56_63 : icode MCl 56 63 = some (.if_icmp .ge 16, 66, 79, 0, 0) := by decide +kernel
theorem k56_66 : icode MCl 56 66 = some (.aload_n 0, 67, 0, 0, 0) := by decide +kernel
theorem k56_67 : icode MCl 56 67 = some (.getfield 40, 70, 816, 791, 1) := by decide +kernel
theorem k56_70 : icode MCl 56 70 = some (.iload_n 1, 71, 0, 0, 0) := by decide +kernel
theorem k56_71 : icode MCl 56 71 = some (.iconst 0, 72, 0, 0, 0) := by decide +kernel
theorem k56_72 : icode MCl 56 72 = some (.iastore, 73, 0, 0, 0) := by decide +kernel
theorem k56_73 : icode MCl 56 73 = some (.iinc 1 1, 76, 0, 0, 1) := by decide +kernel
theorem k56_76 : icode MCl 56 76 = some (.goto (-16), 79, 60, 0, 0) := by decide +kernel
theorem k56_79 : icode MCl 56 79 = some (.aload_n 0, 80, 0, 0, 0) := by decide +kernel
theorem k56_80 : icode MCl 56 80 = some (.getfield 40, 83, 816, 791, 1) := by decide +kernel
theorem k56_83 : icode MCl 56 83 = some (.iconst 1, 84, 0, 0, 1) := by decide +kernel
theorem k56_84 : icode MCl 56 84 = some (.aload_n 0, 85, 0, 0, 0) := by decide +kernel
theorem k56_85 : icode MCl 56 85 = some (.getfield 65, 88, 805, 780, 0) := by decide +kernel
theorem k56_88 : icode MCl 56 88 = some (.iastore, 89, 0, 0, 0) := by decide +kernel
theorem k56_89 : icode MCl 56 89 = some (.iconst 0, 90, 0, 0, 0) := by decide +kernel
theorem k56_90 : icode MCl 56 90 = some (.istore_n 1, 91, 0, 0, 0) := by decide +kernel
theorem k56_91 : icode MCl 56 91 = some (.iload_n 1, 92, 0, 0, 0) := by decide +kernel
theorem k56_92 : icode MCl 56 92 = some (.aload_n 0, 93, 0, 0, 0) := by decide +kernel
theorem k56_93 : icode MCl 56 93 = some (.getfield 87, 96, 804, 779, 0) := by decide +kernel
theorem k56_96 : icode MCl 56 96 = some (.if_icmp .ge 34, 99, 130, 0, 0) := by decide +kernel
theorem k56_99 : icode MCl 56 99 = some (.aload_n 0, 100, 0, 0, 0) := by decide +kernel
theorem k56_100 : icode MCl 56 100 = some (.getfield 40, 103, 816, 791, 1) := by decide +kernel
theorem k56_103 : icode MCl 56 103 = some (.aload_n 0, 104, 0, 0, 0) := by decide +kernel
theorem k56_104 : icode MCl 56 104 = some (.getfield 22, 107, 809, 784, 1) := by decide +kernel
theorem k56_107 : icode MCl 56 107 = some (.iload_n 1, 108, 0, 0, 0) := by decide +kernel
theorem k56_108 : icode MCl 56 108 = some (.iaload, 109, 0, 0, 0) := by decide +kernel
theorem k56_109 : icode MCl 56 109 = some (.aload_n 0, 110, 0, 0, 0) := by decide +kernel
theorem k56_110 : icode MCl 56 110 = some (.getfield 25, 113, 810, 785, 1) := by decide +kernel
theorem k56_113 : icode MCl 56 113 = some (.iload_n 1, 114, 0, 0, 0) := by decide +kernel
theorem k56_114 : icode MCl 56 114 = some (.iaload, 115, 0, 0, 0) := by decide +kernel
theorem k56_115 : icode MCl 56 115 = some (.aload_n 0, 116, 0, 0, 0) := by decide +kernel
theorem k56_116 : icode MCl 56 116 = some (.getfield 28, 119, 811, 786, 1) := by decide +kernel
theorem k56_119 : icode MCl 56 119 = some (.iload_n 1, 120, 0, 0, 0) := by decide +kernel
theorem k56_120 : icode MCl 56 120 = some (.iaload, 121, 0, 0, 0) := by decide +kernel
theorem k56_121 : icode MCl 56 121 = some (.invokestatic 122, 124, 55, 772, 0) := by decide +kernel
theorem k56_124 : icode MCl 56 124 = some (.iinc 1 1, 127, 0, 0, 1) := by decide +kernel
theorem k56_127 : icode MCl 56 127 = some (.goto (-36), 130, 91, 0, 0) := by decide +kernel
theorem k56_130 : icode MCl 56 130 = some (.aload_n 0, 131, 0, 0, 0) := by decide +kernel
theorem k56_131 : icode MCl 56 131 = some (.iconst 0, 132, 0, 0, 0) := by decide +kernel
theorem k56_132 : icode MCl 56 132 = some (.putfield 126, 135, 818, 793, 0) := by decide +kernel
theorem k56_135 : icode MCl 56 135 = some (.aload_n 0, 136, 0, 0, 0) := by decide +kernel
theorem k56_136 : icode MCl 56 136 = some (.iconst 0, 137, 0, 0, 0) := by decide +kernel
theorem k56_137 : icode MCl 56 137 = some (.putfield 129, 140, 823, 798, 0) := by decide +kernel
theorem k56_140 : icode MCl 56 140 = some (.aload_n 0, 141, 0, 0, 0) := by decide +kernel
theorem k56_141 : icode MCl 56 141 = some (.iconst 0, 142, 0, 0, 0) := by decide +kernel
theorem k56_142 : icode MCl 56 142 = some (.putfield 132, 145, 821, 796, 0) := by decide +kernel
theorem k56_145 : icode MCl 56 145 = some (.return_, 146, 0, 0, 0) := by decide +kernel
theorem k57_0 : icode MCl 57 0 = some (.aload_n 0, 1, 0, 0, 0) := by decide +kernel
theorem k57_1 : icode MCl 57 1 = some (.invokespecial 1, 4, 9999, 755, 0) := by decide +kernel
theorem k57_4 : icode MCl 57 4 = some (.aload_n 0, 5, 0, 0, 0) := by decide +kernel
theorem k57_5 : icode MCl 57 5 = some (.sipush 200, 8, 0, 0, 200) := by decide +kernel
theorem k57_8 : icode MCl 57 8 = some (.newarray .int, 10, 0, 0, 0) := by decide +kernel
theorem k57_10 : icode MCl 57 10 = some (.putfield 7, 13, 801, 776, 1) := by decide +kernel
theorem k57_13 : icode MCl 57 13 = some (.aload_n 0, 14, 0, 0, 0) := by decide +kernel
theorem k57_14 : icode MCl 57 14 = some (.bipush 9, 16, 0, 0, 9) := by decide +kernel
theorem k57_16 : icode MCl 57 16 = some (.newarray .int, 18, 0, 0, 0) := by decide +kernel
theorem k57_18 : icode MCl 57 18 = some (.putfield 13, 21, 806, 781, 1) := by decide +kernel
theorem k57_21 : icode MCl 57 21 = some (.aload_n 0, 22, 0, 0, 0) := by decide +kernel
theorem k57_22 : icode MCl 57 22 = some (.bipush 9, 24, 0, 0, 9) := by decide +kernel
theorem k57_24 : icode MCl 57 24 = some (.newarray .int, 26, 0, 0, 0) := by decide +kernel
theorem k57_26 : icode MCl 57 26 = some (.putfield 16, 29, 807, 782, 1) := by decide +kernel
theorem k57_29 : icode MCl 57 29 = some (.aload_n 0, 30, 0, 0, 0) := by decide +kernel
theorem k57_30 : icode MCl 57 30 = some (.bipush 9, 32, 0, 0, 9) := by decide +kernel
theorem k57_32 : icode MCl 57 32 = some (.newarray .int, 34, 0, 0, 0) := by decide +kernel
theorem k57_34 : icode MCl 57 34 = some (.putfield 19, 37, 808, 783, 1) := by decide +kernel
theorem k57_37 : icode MCl 57 37 = some (.aload_n 0, 38, 0, 0, 0) := by decide +kernel
theorem k57_38 : icode MCl 57 38 = some (.bipush 6, 40, 0, 0, 6) := by decide +kernel
theorem k57_40 : icode MCl 57 40 = some (.newarray .int, 42, 0, 0, 0) := by decide +kernel
theorem k57_42 : icode MCl 57 42 = some (.putfield 22, 45, 809, 784, 1) := by decide +kernel
theorem k57_45 : icode MCl 57 45 = some (.aload_n 0, 46, 0, 0, 0) := by decide +kernel
theorem k57_46 : icode MCl 57 46 = some (.bipush 6, 48, 0, 0, 6) := by decide +kernel
theorem k57_48 : icode MCl 57 48 = some (.newarray .int, 50, 0, 0, 0) := by decide +kernel
theorem k57_50 : icode MCl 57 50 = some (.putfield 25, 53, 810, 785, 1) := by decide +kernel
theorem k57_53 : icode MCl 57 53 = some (.aload_n 0, 54, 0, 0, 0) := by decide +kernel
theorem k57_54 : icode MCl 57 54 = some (.bipush 6, 56, 0, 0, 6) := by decide +kernel
theorem k57_56 : icode MCl 57 56 = some (.newarray .int, 58, 0, 0, 0) := by decide +kernel
theorem k57_58 : icode MCl 57 58 = some (.putfield 28, 61, 811, 786, 1) := by decide +kernel
theorem k57_61 : icode MCl 57 61 = some (.aload_n 0, 62, 0, 0, 0) := by decide +kernel
theorem k57_62 : icode MCl 57 62 = some (.bipush 9, 64, 0, 0, 9) := by decide +kernel
theorem k57_64 : icode MCl 57 64 = some (.newarray .int, 66, 0, 0, 0) := by decide +kernel
theorem k57_66 : icode MCl 57 66 = some (.putfield 31, 69, 813, 788, 1) := by decide +kernel
theorem k57_69 : icode MCl 57 69 = some (.aload_n 0, 70, 0, 0, 0) := by decide +kernel
theorem k57_70 : icode MCl 57 70 = some (.bipush 9, 72, 0, 0, 9) := by decide +kernel
theorem k57_72 : icode MCl 57 72 = some (.newarray .int, 74, 0, 0, 0) := by decide +kernel
theorem k57_74 : icode MCl 57 74 = some (.putfield 34, 77, 814, 789, 1) := by decide +kernel
theorem k57_77 : icode MCl 57 77 = some (.aload_n 0, 78, 0, 0, 0) := by decide +kernel
theorem k57_78 : icode MCl 57 78 = some (.bipush 9, 80, 0, 0, 9) := by decide +kernel
theorem k57_80 : icode MCl 57 80 = some (.newarray .int, 82, 0, 0, 0) := by decide +kernel
theorem k57_82 : icode MCl 57 82 = some (.putfield 37, 85, 815, 790, 1) := by decide +kernel
theorem k57_85 : icode MCl 57 85 = some (.aload_n 0, 86, 0, 0, 0) := by decide +kernel
theorem k57_86 : icode MCl 57 86 = some (.bipush 39, 88, 0, 0, 39) := by decide +kernel
theorem k57_88 : icode MCl 57 88 = some (.newarray .int, 90, 0, 0, 0) := by decide +kernel
theorem k57_90 : icode MCl 57 90 = some (.putfield 40, 93, 816, 791, 1) := by decide +kernel
theorem k57_93 : icode MCl 57 93 = some (.aload_n 0, 94, 0, 0, 0) := by decide +kernel
theorem k57_94 : icode MCl 57 94 = some (.bipush 39, 96, 0, 0, 39) := by decide +kernel
theorem k57_96 : icode MCl 57 96 = some (.newarray .int, 98, 0, 0, 0) := by decide +kernel
theorem k57_98 : icode MCl 57 98 = some (.putfield 43, 101, 817, 792, 1) := by decide +kernel
theorem k57_101 : icode MCl 57 101 = some (.aload_n 0, 102, 0, 0, 0) := by decide +kernel
theorem k57_102 : icode MCl 57 102 = some (.sipush 312, 105, 0, 0, 312) := by decide +kernel
theorem k57_105 : icode MCl 57 105 = some (.newarray .int, 107, 0, 0, 0) := by decide +kernel
theorem k57_107 : icode MCl 57 107 = some (.putfield 46, 110, 820, 795, 1) := by decide +kernel
theorem k57_110 : icode MCl 57 110 = some (.aload_n 0, 111, 0, 0, 0) := by decide +kernel
theorem k57_111 : icode MCl 57 111 = some (.bipush 18, 113, 0, 0, 18) := by decide +kernel
theorem k57_113 : icode MCl 57 113 = some (.newarray .int, 115, 0, 0, 0) := by decide +kernel
theorem k57_115 : icode MCl 57 115 = some (.putfield 49, 118, 822, 797, 1) := by decide +kernel
theorem k57_118 : icode MCl 57 118 = some (.aload_n 0, 119, 0, 0, 0) := by decide +kernel
theorem k57_119 : icode MCl 57 119 = some (.bipush 78, 121, 0, 0, 78) := by decide +kernel
theorem k57_121 : icode MCl 57 121 = some (.newarray .int, 123, 0, 0, 0) := by decide +kernel
theorem k57_123 : icode MCl 57 123 = some (.putfield 52, 126, 824, 799, 1) := by decide +kernel
theorem k57_126 : icode MCl 57 126 = some (.aload_n 0, 127, 0, 0, 0) := by decide +kernel
theorem k57_127 : icode MCl 57 127 = some (.invokevirtual 55, 130, 52, 756, 0) := by decide +kernel
theorem k57_130 : icode MCl 57 130 = some (.aload_n 0, 131, 0, 0, 0) := by decide +kernel
theorem k57_131 : icode MCl 57 131 = some (.iconst 0, 132, 0, 0, 0) := by decide +kernel
theorem k57_132 : icode MCl 57 132 = some (.iconst 3, 133, 0, 0, 3) := by decide +kernel
theorem k57_133 : icode MCl 57 133 = some (.iconst 0, 134, 0, 0, 0) := by decide +kernel
theorem k57_134 : icode MCl 57 134 = some (.invokevirtual 58, 137, 53, 760, 0) := by decide +kernel
theorem k57_137 : icode MCl 57 137 = some (.aload_n 0, 138, 0, 0, 0) := by decide +kernel
theorem k57_138 : icode MCl 57 138 = some (.iconst 1, 139, 0, 0, 1) := by decide +kernel
theorem k57_139 : icode MCl 57 139 = some (.iconst 2, 140, 0, 0, 2) := by decide +kernel
theorem k57_140 : icode MCl 57 140 = some (.iconst 0, 141, 0, 0, 0) := by decide +kernel
theorem k57_141 : icode MCl 57 141 = some (.invokevirtual 58, 144, 53, 760, 0) := by decide +kernel
theorem k57_144 : icode MCl 57 144 = some (.aload_n 0, 145, 0, 0, 0) := by decide +kernel
theorem k57_145 : icode MCl 57 145 = some (.iconst 2, 146, 0, 0, 2) := by decide +kernel
theorem k57_146 : icode MCl 57 146 = some (.iconst 4, 147, 0, 0, 4) := by decide +kernel
theorem k57_147 : icode MCl 57 147 = some (.iconst 1, 148, 0, 0, 1) := by decide +kernel
theorem k57_148 : icode MCl 57 148 = some (.invokevirtual 58, 151, 53, 760, 0) := by decide +kernel
theorem k57_151 : icode MCl 57 151 = some (.aload_n 0, 152, 0, 0, 0) := by decide +kernel
theorem k57_152 : icode MCl 57 152 = some (.iconst 3, 153, 0, 0, 3) := by decide +kernel
theorem k57_153 : icode MCl 57 153 = some (.iconst 5, 154, 0, 0, 5) := by decide +kernel
theorem k57_154 : icode MCl 57 154 = some (.iconst 1, 155, 0, 0, 1) := by decide +kernel
theorem k57_155 : icode MCl 57 155 = some (.invokevirtual 58, 158, 53, 760, 0) := by decide +kernel
theorem k57_158 : icode MCl 57 158 = some (.aload_n 0, 159, 0, 0, 0) := by decide +kernel
theorem k57_159 : icode MCl 57 159 = some (.iconst 0, 160, 0, 0, 0) := by decide +kernel
theorem k57_160 : icode MCl 57 160 = some (.iconst 1, 161, 0, 0, 1) := by decide +kernel
theorem k57_161 : icode MCl 57 161 = some (.iconst 2, 162, 0, 0, 2) := by decide +kernel
theorem k57_162 : icode MCl 57 162 = some (.invokevirtual 58, 165, 53, 760, 0) := by decide +kernel
theorem k57_165 : icode MCl 57 165 = some (.aload_n 0, 166, 0, 0, 0) := by decide +kernel
theorem k57_166 : icode MCl 57 166 = some (.iconst 4, 167, 0, 0, 4) := by decide +kernel
theorem k57_167 : icode MCl 57 167 = some (.bipush 6, 169, 0, 0, 6) := by decide +kernel
theorem k57_169 : icode MCl 57 169 = some (.iconst 3, 170, 0, 0, 3) := by decide +kernel
theorem k57_170 : icode MCl 57 170 = some (.invokevirtual 58, 173, 53, 760, 0) := by decide +kernel
theorem k57_173 : icode MCl 57 173 = some (.aload_n 0, 174, 0, 0, 0) := by decide +kernel
theorem k57_174 : icode MCl 57 174 = some (.iconst 2, 175, 0, 0, 2) := by decide +kernel
theorem k57_175 : icode MCl 57 175 = some (.iconst 2, 176, 0, 0, 2) := by decide +kernel
theorem k57_176 : icode MCl 57 176 = some (.iconst 5, 177, 0, 0, 5) := by decide +kernel
theorem k57_177 : icode MCl 57 177 = some (.invokevirtual 58, 180, 53, 760, 0) := by decide +kernel
theorem k57_180 : icode MCl 57 180 = some (.aload_n 0, 181, 0, 0, 0) := by decide +kernel
theorem k57_181 : icode MCl 57 181 = some (.iconst 0, 182, 0, 0, 0) := by decide +kernel
theorem k57_182 : icode MCl 57 182 = some (.bipush 7, 184, 0, 0, 7) := by decide +kernel
theorem k57_184 : icode MCl 57 184 = some (.bipush 7, 186, 0, 0, 7) := by decide +kernel
theorem k57_186 : icode MCl 57 186 = some (.invokevirtual 58, 189, 53, 760, 0) := by decide +kernel
theorem k57_189 : icode MCl 57 189 = some (.aload_n 0, 190, 0, 0, 0) := by decide +kernel
theorem k57_190 : icode MCl 57 190 = some (.iconst 4, 191, 0, 0, 4) := by decide +kernel
theorem k57_191 : icode MCl 57 191 = some (.iconst 0, 192, 0, 0, 0) := by decide +kernel
theorem k57_192 : icode MCl 57 192 = some (.bipush 102, 194, 0, 0, 102) := by decide +kernel
theorem k57_194 : icode MCl 57 194 = some (.invokevirtual 62, 197, 54, 764, 0) := by decide +kernel
theorem k57_197 : icode MCl 57 197 = some (.aload_n 0, 198, 0, 0, 0) := by decide +kernel
theorem k57_198 : icode MCl 57 198 = some (.bipush 6, 200, 0, 0, 6) := by decide +kernel
theorem k57_200 : icode MCl 57 200 = some (.iconst 2, 201, 0, 0, 2) := by decide +kernel
theorem k57_201 : icode MCl 57 201 = some (.sipush 985, 204, 0, 0, 985) := by decide +kernel
theorem k57_204 : icode MCl 57 204 = some (.invokevirtual 62, 207, 54, 764, 0) := by decide +kernel
theorem k57_207 : icode MCl 57 207 = some (.aload_n 0, 208, 0, 0, 0) := by decide +kernel
theorem k57_208 : icode MCl 57 208 = some (.bipush 7, 210, 0, 0, 7) := by decide +kernel
theorem k57_210 : icode MCl 57 210 = some (.iconst 5, 211, 0, 0, 5) := by decide +kernel
theorem k57_211 : icode MCl 57 211 = some (.iconst 2, 212, 0, 0, 2) := by decide +kernel
theorem k57_212 : icode MCl 57 212 = some (.invokevirtual 62, 215, 54, 764, 0) := by decide +kernel
theorem k57_215 : icode MCl 57 215 = some (.aload_n 0, 216, 0, 0, 0) := by decide +kernel
theorem k57_216 : icode MCl 57 216 = some (.iconst 5, 217, 0, 0, 5) := by decide +kernel
theorem k57_217 : icode MCl 57 217 = some (.bipush 9, 219, 0, 0, 9) := by decide +kernel
theorem k57_219 : icode MCl 57 219 = some (.sipush 1407, 222, 0, 0, 1407) := by decide +kernel
theorem k57_222 : icode MCl 57 222 = some (.invokevirtual 62, 225, 54, 764, 0) := by decide +kernel
theorem k57_225 : icode MCl 57 225 = some (.aload_n 0, 226, 0, 0, 0) := by decide +kernel
theorem k57_226 : icode MCl 57 226 = some (.bipush 8, 228, 0, 0, 8) := by decide +kernel
theorem k57_228 : icode MCl 57 228 = some (.putfield 65, 231, 805, 780, 0) := by decide +kernel
theorem k57_231 : icode MCl 57 231 = some (.aload_n 0, 232, 0, 0, 0) := by decide +kernel
theorem k57_232 : icode MCl 57 232 = some (.invokevirtual 69, 235, 56, 768, 0) := by decide +kernel
theorem k57_235 : icode MCl 57 235 = some (.return_, 236, 0, 0, 0) := by decide +kernel
theorem k58_0 : icode MCl 58 0 = some (.iload_n 1, 1, 0, 0, 0) := by decide +kernel
theorem k58_1 : icode MCl 58 1 = some (.bipush 32, 3, 0, 0, 32) := by decide +kernel
theorem k58_3 : icode MCl 58 3 = some (.bipush 126, 5, 0, 0, 126) := by decide +kernel
theorem k58_5 : icode MCl 58 5 = some (.invokestatic 86, 8, 22, 439, 0) := by decide +kernel
theorem k58_8 : icode MCl 58 8 = some (.ifCond .ne 5, 11, 13, 0, 0) := by decide +kernel
theorem k58_11 : icode MCl 58 11 = some (.iconst (-1), 12, 0, 0, (-1)) := by decide +kernel
theorem k58_12 : icode MCl 58 12 = some (.ireturn, 13, 0, 0, 0) := by decide +kernel
theorem k58_13 : icode MCl 58 13 = some (.aload_n 0, 14, 0, 0, 0) := by decide +kernel
theorem k58_14 : icode MCl 58 14 = some (.getfield 10, 17, 700, 409, 1) := by decide +kernel
theorem k58_17 : icode MCl 58 17 = some (.iload_n 1, 18, 0, 0, 0) := by decide +kernel
theorem k58_18 : icode MCl 58 18 = some (.invokevirtual 73, 21, 16, 266, 0) := by decide +kernel
theorem k58_21 : icode MCl 58 21 = some (.ifCond .eq 13, 24, 34, 0, 0) := by decide +kernel
theorem k58_24 : icode MCl 58 24 = some (.aload_n 0, 25, 0, 0, 0) := by decide +kernel
theorem k58_25 : icode MCl 58 25 = some (.getfield 10, 28, 700, 409, 1) := by decide +kernel
theorem k58_28 : icode MCl 58 28 = some (.invokevirtual 90, 31, 19, 440, 0) := by decide +kernel
theorem k58_31 : icode MCl 58 31 = some (.goto 5, 34, 36, 0, 0) := by decide +kernel
theorem k58_34 : icode MCl 58 34 = some (.bipush (-3), 36, 0, 0, (-3)) := by decide +kernel
theorem k58_36 : icode MCl 58 36 = some (.ireturn, 37, 0, 0, 0) := by decide +kernel
theorem k59_0 : icode MCl 59 0 = some (.iload_n 0, 1, 0, 0, 0) := by decide +kernel
theorem k59_1 : icode MCl 59 1 = some (.iload_n 1, 2, 0, 0, 0) := by decide +kernel
theorem k59_2 : icode MCl 59 2 = some (.if_icmp .lt 12, 5, 14, 0, 0) := by decide +kernel
theorem k59_5 : icode MCl 59 5 = some (.iload_n 0, 6, 0, 0, 0) := by decide +kernel
theorem k59_6 : icode MCl 59 6 = some (.iload_n 2, 7, 0, 0, 0) := by decide +kernel
theorem k59_7 : icode MCl 59 7 = some (.if_icmp .gt 7, 10, 14, 0, 0) := by decide +kernel
theorem k59_10 : icode MCl 59 10 = some (.iconst 1, 11, 0, 0, 1) := by decide +kernel
theorem k59_11 : icode MCl 59 11 = some (.goto 4, 14, 15, 0, 0) := by decide +kernel
theorem k59_14 : icode MCl 59 14 = some (.iconst 0, 15, 0, 0, 0) := by decide +kernel
theorem k59_15 : icode MCl 59 15 = some (.ireturn, 16, 0, 0, 0) := by decide +kernel
theorem k60_0 : icode MCl 60 0 = some (.iload_n 1, 1, 0, 0, 0) := by decide +kernel
theorem k60_1 : icode MCl 60 1 = some (.bipush 32, 3, 0, 0, 32) := by decide +kernel
theorem k60_3 : icode MCl 60 3 = some (.bipush 126, 5, 0, 0, 126) := by decide +kernel
theorem k60_5 : icode MCl 60 5 = some (.invokestatic 73, 8, 59, 855, 0) := by decide +kernel
theorem k60_8 : icode MCl 60 8 = some (.ifCond .ne 5, 11, 13, 0, 0) := by decide +kernel
theorem k60_11 : icode MCl 60 11 = some (.iconst (-1), 12, 0, 0, (-1)) := by decide +kernel
theorem k60_12 : icode MCl 60 12 = some (.ireturn, 13, 0, 0, 0) := by decide +kernel
theorem k60_13 : icode MCl 60 13 = some (.aload_n 0, 14, 0, 0, 0) := by decide +kernel
theorem k60_14 : icode MCl 60 14 = some (.getfield 90, 17, 800, 775, 0) := by decide +kernel
theorem k60_17 : icode MCl 60 17 = some (.sipush 200, 20, 0, 0, 200) := by decide +kernel
theorem k60_20 : icode MCl 60 20 = some (.if_icmp .ne 6, 23, 26, 0, 0) := by decide +kernel
theorem k60_23 : icode MCl 60 23 = some (.bipush (-3), 25, 0, 0, (-3)) := by decide +kernel
theorem k60_25 : icode MCl 60 25 = some (.ireturn, 26, 0, 0, 0) := by decide +kernel
theorem k60_26 : icode MCl 60 26 = some (.aload_n 0, 27, 0, 0, 0) := by decide +kernel
theorem k60_27 : icode MCl 60 27 = some (.getfield 7, 30, 801, 776, 1) := by decide +kernel
theorem k60_30 : icode MCl 60 30 = some (.aload_n 0, 31, 0, 0, 0) := by decide +kernel
theorem k60_31 : icode MCl 60 31 = some (.getfield 90, 34, 800, 775, 0) := by decide +kernel
theorem k60_34 : icode MCl 60 34 = some (.iload_n 1, 35, 0, 0, 0) := by decide +kernel
theorem k60_35 : icode MCl 60 35 = some (.iastore, 36, 0, 0, 0) := by decide +kernel
theorem k60_36 : icode MCl 60 36 = some (.aload_n 0, 37, 0, 0, 0) := by decide +kernel
theorem k60_37 : icode MCl 60 37 = some (.dup, 38, 0, 0, 0) := by decide +kernel
theorem k60_38 : icode MCl 60 38 = some (.getfield 90, 41, 800, 775, 0) := by decide +kernel
theorem k60_41 : icode MCl 60 41 = some (.iconst 1, 42, 0, 0, 1) := by decide +kernel
theorem k60_42 : icode MCl 60 42 = some (.iadd, 43, 0, 0, 0) := by decide +kernel
theorem k60_43 : icode MCl 60 43 = some (.putfield 90, 46, 800, 775, 0) := by decide +kernel
theorem k60_46 : icode MCl 60 46 = some (.aload_n 0, 47, 0, 0, 0) := by decide +kernel
theorem k60_47 : icode MCl 60 47 = some (.getfield 90, 50, 800, 775, 0) := by decide +kernel
theorem k60_50 : icode MCl 60 50 = some (.ireturn, 51, 0, 0, 0) := by decide +kernel
theorem k61_0 : icode MCl 61 0 = some (.aload_n 0, 1, 0, 0, 0) := by decide +kernel
theorem k61_1 : icode MCl 61 1 = some (.getfield 10, 4, 700, 409, 1) := by decide +kernel
theorem k61_4 : icode MCl 61 4 = some (.invokevirtual 90, 7, 19, 440, 0) := by decide +kernel
theorem k61_7 : icode MCl 61 7 = some (.istore_n 1, 8, 0, 0, 0) := by decide +kernel
theorem k61_8 : icode MCl 61 8 = some (.aload_n 0, 9, 0, 0, 0) := by decide +kernel
theorem k61_9 : icode MCl 61 9 = some (.getfield 10, 12, 700, 409, 1) := by decide +kernel
theorem k61_12 : icode MCl 61 12 = some (.invokevirtual 83, 15, 50, 405, 0) := by decide +kernel
theorem k61_15 : icode MCl 61 15 = some (.iload_n 1, 16, 0, 0, 0) := by decide +kernel
theorem k61_16 : icode MCl 61 16 = some (.ireturn, 17, 0, 0, 0) := by decide +kernel
theorem k62_0 : icode MCl 62 0 = some (.aload_n 0, 1, 0, 0, 0) := by decide +kernel
theorem k62_1 : icode MCl 62 1 = some (.getfield 90, 4, 800, 775, 0) := by decide +kernel
theorem k62_4 : icode MCl 62 4 = some (.istore_n 1, 5, 0, 0, 0) := by decide +kernel
theorem k62_5 : icode MCl 62 5 = some (.aload_n 0, 6, 0, 0, 0) := by decide +kernel
theorem k62_6 : icode MCl 62 6 = some (.iconst 0, 7, 0, 0, 0) := by decide +kernel
theorem k62_7 : icode MCl 62 7 = some (.putfield 90, 10, 800, 775, 0) := by decide +kernel
theorem k62_10 : icode MCl 62 10 = some (.iload_n 1, 11, 0, 0, 0) := by decide +kernel
theorem k62_11 : icode MCl 62 11 = some (.ireturn, 12, 0, 0, 0) := by decide +kernel
theorem k63_0 : icode MCl 63 0 = some (.aload_n 0, 1, 0, 0, 0) := by decide +kernel
theorem k63_1 : icode MCl 63 1 = some (.getfield 21, 4, 701, 410, 1) := by decide +kernel
theorem k63_4 : icode MCl 63 4 = some (.invokevirtual 77, 7, 39, 273, 0) := by decide +kernel
theorem k63_7 : icode MCl 63 7 = some (.ireturn, 8, 0, 0, 0) := by decide +kernel
theorem k64_0 : icode MCl 64 0 = some (.aload_n 0, 1, 0, 0, 0) := by decide +kernel
theorem k64_1 : icode MCl 64 1 = some (.getfield 93, 4, 802, 777, 0) := by decide +kernel
theorem k64_4 : icode MCl 64 4 = some (.aload_n 0, 5, 0, 0, 0) := by decide +kernel
theorem k64_5 : icode MCl 64 5 = some (.getfield 90, 8, 800, 775, 0) := by decide +kernel
theorem k64_8 : icode MCl 64 8 = some (.if_icmp .ge 15, 11, 23, 0, 0) := by decide +kernel
theorem k64_11 : icode MCl 64 11 = some (.aload_n 0, 12, 0, 0, 0) := by decide +kernel
theorem k64_12 : icode MCl 64 12 = some (.getfield 7, 15, 801, 776, 1) := by decide +kernel
theorem k64_15 : icode MCl 64 15 = some (.aload_n 0, 16, 0, 0, 0) := by decide +kernel
theorem k64_16 : icode MCl 64 16 = some (.getfield 93, 19, 802, 777, 0) := by decide +kernel
theorem k64_19 : icode MCl 64 19 = some (.iaload, 20, 0, 0, 0) := by decide +kernel
theorem k64_20 : icode MCl 64 20 = some (.goto 4, 23, 24, 0, 0) := by decide +kernel
theorem k64_23 : icode MCl 64 23 = some (.iconst 0, 24, 0, 0, 0) := by decide +kernel
theorem k64_24 : icode MCl 64 24 = some (.ireturn, 25, 0, 0, 0) := by decide +kernel
theorem k65_0 : icode MCl 65 0 = some (.aload_n 0, 1, 0, 0, 0) := by decide +kernel
theorem k65_1 : icode MCl 65 1 = some (.invokevirtual 96, 4, 64, 874, 0) := by decide +kernel
theorem k65_4 : icode MCl 65 4 = some (.bipush 48, 6, 0, 0, 48) := by decide +kernel
theorem k65_6 : icode MCl 65 6 = some (.bipush 57, 8, 0, 0, 57) := by decide +kernel
theorem k65_8 : icode MCl 65 8 = some (.invokestatic 73, 11, 59, 855, 0) := by decide +kernel
theorem k65_11 : icode MCl 65 11 = some (.ifCond .ne 5, 14, 16, 0, 0) := by decide +kernel
theorem k65_14 : icode MCl 65 14 = some (.iconst (-1), 15, 0, 0, (-1)) := by decide +kernel
theorem k65_15 : icode MCl 65 15 = some (.ireturn, 16, 0, 0, 0) := by decide +kernel
theorem k65_16 : icode MCl 65 16 = some (.aload_n 0, 17, 0, 0, 0) := by decide +kernel
theorem k65_17 : icode MCl 65 17 = some (.invokevirtual 96, 20, 64, 874, 0) := by decide +kernel
theorem k65_20 : icode MCl 65 20 = some (.bipush 48, 22, 0, 0, 48) := by decide +kernel
theorem k65_22 : icode MCl 65 22 = some (.isub, 23, 0, 0, 0) := by decide +kernel
theorem k65_23 : icode MCl 65 23 = some (.istore_n 2, 24, 0, 0, 0) := by decide +kernel
theorem k65_24 : icode MCl 65 24 = some (.aload_n 0, 25, 0, 0, 0) := by decide +kernel
theorem k65_25 : icode MCl 65 25 = some (.dup, 26, 0, 0, 0) := by decide +kernel
theorem k65_26 : icode MCl 65 26 = some (.getfield 93, 29, 802, 777, 0) := by decide +kernel
theorem k65_29 : icode MCl 65 29 = some (.iconst 1, 30, 0, 0, 1) := by decide +kernel
theorem k65_30 : icode MCl 65 30 = some (.iadd, 31, 0, 0, 0) := by decide +kernel
theorem k65_31 : icode MCl 65 31 = some (.putfield 93, 34, 802, 777, 0) := by decide +kernel
theorem k65_34 : icode MCl 65 34 = some (.aload_n 0, 35, 0, 0, 0) := by decide +kernel
theorem k65_35 : icode MCl 65 35 = some (.invokevirtual 96, 38, 64, 874, 0) := by decide +kernel
theorem k65_38 : icode MCl 65 38 = some (.bipush 48, 40, 0, 0, 48) := by decide +kernel
theorem k65_40 : icode MCl 65 40 = some (.bipush 57, 42, 0, 0, 57) := by decide +kernel
theorem k65_42 : icode MCl 65 42 = some (.invokestatic 73, 45, 59, 855, 0) := by decide +kernel
theorem k65_45 : icode MCl 65 45 = some (.ifCond .eq 26, 48, 71, 0, 0) := by decide +kernel
theorem k65_48 : icode MCl 65 48 = some (.bipush 10, 50, 0, 0, 10) := by decide +kernel
theorem k65_50 : icode MCl 65 50 = some (.iload_n 2, 51, 0, 0, 0) := by decide +kernel
theorem k65_51 : icode MCl 65 51 = some (.imul, 52, 0, 0, 0) := by decide +kernel
theorem k65_52 : icode MCl 65 52 = some (.aload_n 0, 53, 0, 0, 0) := by decide +kernel
theorem k65_53 : icode MCl 65 53 = some (.invokevirtual 96, 56, 64, 874, 0) := by decide +kernel
theorem k65_56 : icode MCl 65 56 = some (.iadd, 57, 0, 0, 0) := by decide +kernel
theorem k65_57 : icode MCl 65 57 = some (.bipush 48, 59, 0, 0, 48) := by decide +kernel
theorem k65_59 : icode MCl 65 59 = some (.isub, 60, 0, 0, 0) := by decide +kernel
theorem k65_60 : icode MCl 65 60 = some (.istore_n 2, 61, 0, 0, 0) := by decide +kernel
theorem k65_61 : icode MCl 65 61 = some (.aload_n 0, 62, 0, 0, 0) := by decide +kernel
theorem k65_62 : icode MCl 65 62 = some (.dup, 63, 0, 0, 0) := by decide +kernel
theorem k65_63 : icode MCl 65 63 = some (.getfield 93, 66, 802, 777, 0) := by decide +kernel
theorem k65_66 : icode MCl 65 66 = some (.iconst 1, 67, 0, 0, 1) := by decide +kernel
theorem k65_67 : icode MCl 65 67 = some (.iadd, 68, 0, 0, 0) := by decide +kernel
theorem k65_68 : icode MCl 65 68 = some (.putfield 93, 71, 802, 777, 0) := by decide +kernel
theorem k65_71 : icode MCl 65 71 = some (.aload_n 0, 72, 0, 0, 0) := by decide +kernel
theorem k65_72 : icode MCl 65 72 = some (.invokevirtual 96, 75, 64, 874, 0) := by decide +kernel
theorem k65_75 : icode MCl 65 75 = some (.iload_n 1, 76, 0, 0, 0) := by decide +kernel
theorem k65_76 : icode MCl 65 76 = some (.if_icmp .eq 5, 79, 81, 0, 0) := by decide +kernel
theorem k65_79 : icode MCl 65 79 = some (.iconst (-1), 80, 0, 0, (-1)) := by decide +kernel
theorem k65_80 : icode MCl 65 80 = some (.ireturn, 81, 0, 0, 0) := by decide +kernel
theorem k65_81 : icode MCl 65 81 = some (.aload_n 0, 82, 0, 0, 0) := by decide +kernel
theorem k65_82 : icode MCl 65 82 = some (.dup, 83, 0, 0, 0) := by decide +kernel
theorem k65_83 : icode MCl 65 83 = some (.getfield 93, 86, 802, 777, 0) := by decide +kernel
theorem k65_86 : icode MCl 65 86 = some (.iconst 1, 87, 0, 0, 1) := by decide +kernel
theorem k65_87 : icode MCl 65 87 = some (.iadd, 88, 0, 0, 0) := by decide +kernel
theorem k65_88 : icode MCl 65 88 = some (.putfield 93, 91, 802, 777, 0) := by decide +kernel
theorem k65_91 : icode MCl 65 91 = some (.iload_n 2, 92, 0, 0, 0) := by decide +kernel
theorem k65_92 : icode MCl 65 92 = some (.ireturn, 93, 0, 0, 0) := by decide +kernel
theorem k66_0 : icode MCl 66 0 = some (.aload_n 0, 1, 0, 0, 0) := by decide +kernel
theorem k66_1 : icode MCl 66 1 = some (.bipush 44, 3, 0, 0, 44) := by decide +kernel
theorem k66_3 : icode MCl 66 3 = some (.invokevirtual 100, 6, 65, 882, 0) := by decide +kernel
theorem k66_6 : icode MCl 66 6 = some (.istore_n 1, 7, 0, 0, 0) := by decide +kernel
theorem k66_7 : icode MCl 66 7 = some (.iload_n 1, 8, 0, 0, 0) := by decide +kernel
theorem k66_8 : icode MCl 66 8 = some (.ifCond .ge 7, 11, 15, 0, 0) := by decide +kernel
theorem k66_11 : icode MCl 66 11 = some (.iconst (-1), 12, 0, 0, (-1)) := by decide +kernel
theorem k66_12 : icode MCl 66 12 = some (.goto 9, 15, 21, 0, 0) := by decide +kernel
theorem k66_15 : icode MCl 66 15 = some (.aload_n 0, 16, 0, 0, 0) := by decide +kernel
theorem k66_16 : icode MCl 66 16 = some (.bipush 44, 18, 0, 0, 44) := by decide +kernel
theorem k66_18 : icode MCl 66 18 = some (.invokevirtual 100, 21, 65, 882, 0) := by decide +kernel
theorem k66_21 : icode MCl 66 21 = some (.istore_n 2, 22, 0, 0, 0) := by decide +kernel
theorem k66_22 : icode MCl 66 22 = some (.iload_n 2, 23, 0, 0, 0) := by decide +kernel
theorem k66_23 : icode MCl 66 23 = some (.ifCond .ge 7, 26, 30, 0, 0) := by decide +kernel
theorem k66_26 : icode MCl 66 26 = some (.iconst (-1), 27, 0, 0, (-1)) := by decide +kernel
theorem k66_27 : icode MCl 66 27 = some (.goto 9, 30, 36, 0, 0) := by decide +kernel
theorem k66_30 : icode MCl 66 30 = some (.aload_n 0, 31, 0, 0, 0) := by decide +kernel
theorem k66_31 : icode MCl 66 31 = some (.bipush 59, 33, 0, 0, 59) := by decide +kernel
theorem k66_33 : icode MCl 66 33 = some (.invokevirtual 100, 36, 65, 882, 0) := by decide +kernel
theorem k66_36 : icode MCl 66 36 = some (.istore_n 3, 37, 0, 0, 0) := by decide +kernel
theorem k66_37 : icode MCl 66 37 = some (.iload_n 3, 38, 0, 0, 0) := by decide +kernel
theorem k66_38 : icode MCl 66 38 = some (.ifCond .lt 35, 41, 73, 0, 0) := by decide +kernel
theorem k66_41 : icode MCl 66 41 = some (.iload_n 1, 42, 0, 0, 0) := by decide +kernel
theorem k66_42 : icode MCl 66 42 = some (.iconst 4, 43, 0, 0, 4) := by decide +kernel
theorem k66_43 : icode MCl 66 43 = some (.if_icmp .gt 30, 46, 73, 0, 0) := by decide +kernel
theorem k66_46 : icode MCl 66 46 = some (.iload_n 2, 47, 0, 0, 0) := by decide +kernel
theorem k66_47 : icode MCl 66 47 = some (.iconst 1, 48, 0, 0, 1) := by decide +kernel
theorem k66_48 : icode MCl 66 48 = some (.bipush 20, 50, 0, 0, 20) := by decide +kernel
theorem k66_50 : icode MCl 66 50 = some (.invokestatic 73, 53, 59, 855, 0) := by decide +kernel
theorem k66_53 : icode MCl 66 53 = some (.ifCond .eq 20, 56, 73, 0, 0) := by decide +kernel
theorem k66_56 : icode MCl 66 56 = some (.iload_n 3, 57, 0, 0, 0) := by decide +kernel
theorem k66_57 : icode MCl 66 57 = some (.aload_n 0, 58, 0, 0, 0) := by decide +kernel
theorem k66_58 : icode MCl 66 58 = some (.getfield 84, 61, 803, 778, 0) := by decide +kernel
theorem k66_61 : icode MCl 66 61 = some (.if_icmp .gt 12, 64, 73, 0, 0) := by decide +kernel
theorem k66_64 : icode MCl 66 64 = some (.aload_n 0, 65, 0, 0, 0) := by decide +kernel
theorem k66_65 : icode MCl 66 65 = some (.getfield 84, 68, 803, 778, 0) := by decide +kernel
theorem k66_68 : icode MCl 66 68 = some (.bipush 9, 70, 0, 0, 9) := by decide +kernel
theorem k66_70 : icode MCl 66 70 = some (.if_icmp .ne 5, 73, 75, 0, 0) := by decide +kernel
theorem k66_73 : icode MCl 66 73 = some (.iconst 0, 74, 0, 0, 0) := by decide +kernel
theorem k66_74 : icode MCl 66 74 = some (.ireturn, 75, 0, 0, 0) := by decide +kernel
theorem k66_75 : icode MCl 66 75 = some (.aload_n 0, 76, 0, 0, 0) := by decide +kernel
theorem k66_76 : icode MCl 66 76 = some (.iload_n 1, 77, 0, 0, 0) := by decide +kernel
theorem k66_77 : icode MCl 66 77 = some (.iload_n 2, 78, 0, 0, 0) := by decide +kernel
theorem k66_78 : icode MCl 66 78 = some (.iload_n 3, 79, 0, 0, 0) := by decide +kernel
theorem k66_79 : icode MCl 66 79 = some (.invokevirtual 58, 82, 53, 760, 0) := by decide +kernel
theorem k66_82 : icode MCl 66 82 = some (.iconst 1, 83, 0, 0, 1) := by decide +kernel
theorem k66_83 : icode MCl 66 83 = some (.ireturn, 84, 0, 0, 0) := by decide +kernel
theorem k67_0 : icode MCl 67 0 = some (.iconst 0, 1, 0, 0, 0) := by decide +kernel
theorem k67_1 : icode MCl 67 1 = some (.istore_n 1, 2, 0, 0, 0) := by decide +kernel
theorem k67_2 : icode MCl 67 2 = some (.iconst 0, 3, 0, 0, 0) := by decide +kernel
theorem k67_3 : icode MCl 67 3 = some (.istore_n 2, 4, 0, 0, 0) := by decide +kernel
theorem k67_4 : icode MCl 67 4 = some (.iconst 1, 5, 0, 0, 1) := by decide +kernel
theorem k67_5 : icode MCl 67 5 = some (.istore_n 3, 6, 0, 0, 0) := by decide +kernel
theorem k67_6 : icode MCl 67 6 = some (.iload_n 3, 7, 0, 0, 0) := by decide +kernel
theorem k67_7 : icode MCl 67 7 = some (.ifCond .eq 102, 10, 109, 0, 0) := by decide +kernel
theorem k67_10 : icode MCl 67 10 = some (.aload_n 0, 11, 0, 0, 0) := by decide +kernel
theorem k67_11 : icode MCl 67 11 = some (.invokevirtual 96, 14, 64, 874, 0) := by decide +kernel
theorem k67_14 : icode MCl 67 14 = some (.bipush 59, 16, 0, 0, 59) := by decide +kernel
theorem k67_16 : icode MCl 67 16 = some (.if_icmp .eq 93, 19, 109, 0, 0) := by decide +kernel
theorem k67_19 : icode MCl 67 19 = some (.aload_n 0, 20, 0, 0, 0) := by decide +kernel
theorem k67_20 : icode MCl 67 20 = some (.invokevirtual 96, 23, 64, 874, 0) := by decide +kernel
theorem k67_23 : icode MCl 67 23 = some (.bipush 112, 25, 0, 0, 112) := by decide +kernel
theorem k67_25 : icode MCl 67 25 = some (.if_icmp .ne 7, 28, 32, 0, 0) := by decide +kernel
theorem k67_28 : icode MCl 67 28 = some (.iconst 1, 29, 0, 0, 1) := by decide +kernel
theorem k67_29 : icode MCl 67 29 = some (.goto 30, 32, 59, 0, 0) := by decide +kernel
theorem k67_32 : icode MCl 67 32 = some (.aload_n 0, 33, 0, 0, 0) := by decide +kernel
theorem k67_33 : icode MCl 67 33 = some (.invokevirtual 96, 36, 64, 874, 0) := by decide +kernel
theorem k67_36 : icode MCl 67 36 = some (.bipush 117, 38, 0, 0, 117) := by decide +kernel
theorem k67_38 : icode MCl 67 38 = some (.if_icmp .ne 7, 41, 45, 0, 0) := by decide +kernel
theorem k67_41 : icode MCl 67 41 = some (.iconst 2, 42, 0, 0, 2) := by decide +kernel
theorem k67_42 : icode MCl 67 42 = some (.goto 17, 45, 59, 0, 0) := by decide +kernel
theorem k67_45 : icode MCl 67 45 = some (.aload_n 0, 46, 0, 0, 0) := by decide +kernel
theorem k67_46 : icode MCl 67 46 = some (.invokevirtual 96, 49, 64, 874, 0) := by decide +kernel
theorem k67_49 : icode MCl 67 49 = some (.bipush 115, 51, 0, 0, 115) := by decide +kernel
theorem k67_51 : icode MCl 67 51 = some (.if_icmp .ne 7, 54, 58, 0, 0) := by decide +kernel
theorem k67_54 : icode MCl 67 54 = some (.iconst 3, 55, 0, 0, 3) := by decide +kernel
theorem k67_55 : icode MCl 67 55 = some (.goto 4, 58, 59, 0, 0) := by decide +kernel
theorem k67_58 : icode MCl 67 58 = some (.iconst 0, 59, 0, 0, 0) := by decide +kernel
theorem k67_59 : icode MCl 67 59 = some (.istore 4, 61, 0, 0, 0) := by decide +kernel
theorem k67_61 : icode MCl 67 61 = some (.iload 4, 63, 0, 0, 0) := by decide +kernel
theorem k67_63 : icode MCl 67 63 = some (.ifCond .le 13, 66, 76, 0, 0) := by decide +kernel
theorem k67_66 : icode MCl 67 66 = some (.iload_n 2, 67, 0, 0, 0) := by decide +kernel
theorem k67_67 : icode MCl 67 67 = some (.bipush 8, 69, 0, 0, 8) := by decide +kernel
theorem k67_69 : icode MCl 67 69 = some (.if_icmp .ge 7, 72, 76, 0, 0) := by decide +kernel
theorem k67_72 : icode MCl 67 72 = some (.iconst 1, 73, 0, 0, 1) := by decide +kernel
theorem k67_73 : icode MCl 67 73 = some (.goto 4, 76, 77, 0, 0) := by decide +kernel
theorem k67_76 : icode MCl 67 76 = some (.iconst 0, 77, 0, 0, 0) := by decide +kernel
theorem k67_77 : icode MCl 67 77 = some (.istore_n 3, 78, 0, 0, 0) := by decide +kernel
theorem k67_78 : icode MCl 67 78 = some (.iload_n 3, 79, 0, 0, 0) := by decide +kernel
theorem k67_79 : icode MCl 67 79 = some (.ifCond .eq 12, 82, 91, 0, 0) := by decide +kernel
theorem k67_82 : icode MCl 67 82 = some (.iconst 4, 83, 0, 0, 4) := by decide +kernel
theorem k67_83 : icode MCl 67 83 = some (.iload_n 1, 84, 0, 0, 0) := by decide +kernel
theorem k67_84 : icode MCl 67 84 = some (.imul, 85, 0, 0, 0) := by decide +kernel
theorem k67_85 : icode MCl 67 85 = some (.iload 4, 87, 0, 0, 0) := by decide +kernel
theorem k67_87 : icode MCl 67 87 = some (.iadd, 88, 0, 0, 0) := by decide +kernel
theorem k67_88 : icode MCl 67 88 = some (.goto 4, 91, 92, 0, 0) := by decide +kernel
theorem k67_91 : icode MCl 67 91 = some (.iload_n 1, 92, 0, 0, 0) := by decide +kernel
theorem k67_92 : icode MCl 67 92 = some (.istore_n 1, 93, 0, 0, 0) := by decide +kernel
theorem k67_93 : icode MCl 67 93 = some (.iinc 2 1, 96, 0, 0, 1) := by decide +kernel
theorem k67_96 : icode MCl 67 96 = some (.aload_n 0, 97, 0, 0, 0) := by decide +kernel
theorem k67_97 : icode MCl 67 97 = some (.dup, 98, 0, 0, 0) := by decide +kernel
theorem k67_98 : icode MCl 67 98 = some (.getfield 93, 101, 802, 777, 0) := by decide +kernel
theorem k67_101 : icode MCl 67 101 = some (.iconst 1, 102, 0, 0, 1) := by decide +kernel
theorem k67_102 : icode MCl 67 102 = some (.iadd, 103, 0, 0, 0) := by decide +kernel
theorem k67_103 : icode MCl 67 103 = some (.putfield 93, 106, 802, 777, 0) := by decide +kernel
theorem k67_106 : icode MCl 67 106 = some (.goto (-100), 109, 6, 0, 0) := by decide +kernel
theorem k67_109 : icode MCl 67 109 = some (.iload_n 3, 110, 0, 0, 0) := by decide +kernel
theorem k67_110 : icode MCl 67 110 = some (.ifCond .eq 7, 113, 117, 0, 0) := by decide +kernel
theorem k67_113 : icode MCl 67 113 = some (.iload_n 2, 114, 0, 0, 0) := by decide +kernel
theorem k67_114 : icode MCl 67 114 = some (.ifCond .ne 5, 117, 119, 0, 0) := by decide +kernel
theorem k67_117 : icode MCl 67 117 = some (.iconst (-1), 118, 0, 0, (-1)) := by decide +kernel
theorem k67_118 : icode MCl 67 118 = some (.ireturn, 119, 0, 0, 0) := by decide +kernel
theorem k67_119 : icode MCl 67 119 = some (.aload_n 0, 120, 0, 0, 0) := by decide +kernel
theorem k67_120 : icode MCl 67 120 = some (.dup, 121, 0, 0, 0) := by decide +kernel
theorem k67_121 : icode MCl 67 121 = some (.getfield 93, 124, 802, 777, 0) := by decide +kernel
theorem k67_124 : icode MCl 67 124 = some (.iconst 1, 125, 0, 0, 1) := by decide +kernel
theorem k67_125 : icode MCl 67 125 = some (.iadd, 126, 0, 0, 0) := by decide +kernel
theorem k67_126 : icode MCl 67 126 = some (.putfield 93, 129, 802, 777, 0) := by decide +kernel
theorem k67_129 : icode MCl 67 129 = some (.iload_n 1, 130, 0, 0, 0) := by decide +kernel
theorem k67_130 : icode MCl 67 130 = some (.ireturn, 131, 0, 0, 0) := by decide +kernel
theorem k68_0 : icode MCl 68 0 = some (.aload_n 0, 1, 0, 0, 0) := by decide +kernel
theorem k68_1 : icode MCl 68 1 = some (.bipush 44, 3, 0, 0, 44) := by decide +kernel
theorem k68_3 : icode MCl 68 3 = some (.invokevirtual 100, 6, 65, 882, 0) := by decide +kernel
theorem k68_6 : icode MCl 68 6 = some (.istore_n 1, 7, 0, 0, 0) := by decide +kernel
theorem k68_7 : icode MCl 68 7 = some (.iload_n 1, 8, 0, 0, 0) := by decide +kernel
theorem k68_8 : icode MCl 68 8 = some (.ifCond .ge 7, 11, 15, 0, 0) := by decide +kernel
theorem k68_11 : icode MCl 68 11 = some (.iconst (-1), 12, 0, 0, (-1)) := by decide +kernel
theorem k68_12 : icode MCl 68 12 = some (.goto 9, 15, 21, 0, 0) := by decide +kernel
theorem k68_15 : icode MCl 68 15 = some (.aload_n 0, 16, 0, 0, 0) := by decide +kernel
theorem k68_16 : icode MCl 68 16 = some (.bipush 44, 18, 0, 0, 44) := by decide +kernel
theorem k68_18 : icode MCl 68 18 = some (.invokevirtual 100, 21, 65, 882, 0) := by decide +kernel
theorem k68_21 : icode MCl 68 21 = some (.istore_n 2, 22, 0, 0, 0) := by decide +kernel
theorem k68_22 : icode MCl 68 22 = some (.iload_n 2, 23, 0, 0, 0) := by decide +kernel
theorem k68_23 : icode MCl 68 23 = some (.ifCond .ge 7, 26, 30, 0, 0) := by decide +kernel
theorem k68_26 : icode MCl 68 26 = some (.iconst (-1), 27, 0, 0, (-1)) := by decide +kernel
theorem k68_27 : icode MCl 68 27 = some (.goto 7, 30, 34, 0, 0) := by decide +kernel
theorem k68_30 : icode MCl 68 30 = some (.aload_n 0, 31, 0, 0, 0) := by decide +kernel
theorem k68_31 : icode MCl 68 31 = some (.invokevirtual 103, 34, 67, 890, 0) := by decide +kernel
theorem k68_34 : icode MCl 68 34 = some (.istore_n 3, 35, 0, 0, 0) := by decide +kernel
theorem k68_35 : icode MCl 68 35 = some (.iload_n 3, 36, 0, 0, 0) := by decide +kernel
theorem k68_36 : icode MCl 68 36 = some (.ifCond .lt 20, 39, 56, 0, 0) := by decide +kernel
theorem k68_39 : icode MCl 68 39 = some (.iload_n 1, 40, 0, 0, 0) := by decide +kernel
theorem k68_40 : icode MCl 68 40 = some (.aload_n 0, 41, 0, 0, 0) := by decide +kernel
theorem k68_41 : icode MCl 68 41 = some (.getfield 84, 44, 803, 778, 0) := by decide +kernel
theorem k68_44 : icode MCl 68 44 = some (.if_icmp .ge 12, 47, 56, 0, 0) := by decide +kernel
theorem k68_47 : icode MCl 68 47 = some (.aload_n 0, 48, 0, 0, 0) := by decide +kernel
theorem k68_48 : icode MCl 68 48 = some (.getfield 87, 51, 804, 779, 0) := by decide +kernel
theorem k68_51 : icode MCl 68 51 = some (.bipush 6, 53, 0, 0, 6) := by decide +kernel
theorem k68_53 : icode MCl 68 53 = some (.if_icmp .ne 5, 56, 58, 0, 0) := by decide +kernel
theorem k68_56 : icode MCl 68 56 = some (.iconst 0, 57, 0, 0, 0) := by decide +kernel
theorem k68_57 : icode MCl 68 57 = some (.ireturn, 58, 0, 0, 0) := by decide +kernel
theorem k68_58 : icode MCl 68 58 = some (.aload_n 0, 59, 0, 0, 0) := by decide +kernel
theorem k68_59 : icode MCl 68 59 = some (.iload_n 1, 60, 0, 0, 0) := by decide +kernel
theorem k68_60 : icode MCl 68 60 = some (.iload_n 2, 61, 0, 0, 0) := by decide +kernel
theorem k68_61 : icode MCl 68 61 = some (.iload_n 3, 62, 0, 0, 0) := by decide +kernel
theorem k68_62 : icode MCl 68 62 = some (.invokevirtual 62, 65, 54, 764, 0) := by decide +kernel
theorem k68_65 : icode MCl 68 65 = some (.iconst 1, 66, 0, 0, 1) := by decide +kernel
theorem k68_66 : icode MCl 68 66 = some (.ireturn, 67, 0, 0, 0) := by decide +kernel
theorem k69_0 : icode MCl 69 0 = some (.aload_n 0, 1, 0, 0, 0) := by decide +kernel
theorem k69_1 : icode MCl 69 1 = some (.invokevirtual 96, 4, 64, 874, 0) := by decide +kernel
theorem k69_4 : icode MCl 69 4 = some (.istore_n 1, 5, 0, 0, 0) := by decide +kernel
theorem k69_5 : icode MCl 69 5 = some (.aload_n 0, 6, 0, 0, 0) := by decide +kernel
theorem k69_6 : icode MCl 69 6 = some (.dup, 7, 0, 0, 0) := by decide +kernel
theorem k69_7 : icode MCl 69 7 = some (.getfield 93, 10, 802, 777, 0) := by decide +kernel
theorem k69_10 : icode MCl 69 10 = some (.iconst 1, 11, 0, 0, 1) := by decide +kernel
theorem k69_11 : icode MCl 69 11 = some (.iadd, 12, 0, 0, 0) := by decide +kernel
theorem k69_12 : icode MCl 69 12 = some (.putfield 93, 15, 802, 777, 0) := by decide +kernel
theorem k69_15 : icode MCl 69 15 = some (.iload_n 1, 16, 0, 0, 0) := by decide +kernel
theorem k69_16 : icode MCl 69 16 = some (.bipush 99, 18, 0, 0, 99) := by decide +kernel
theorem k69_18 : icode MCl 69 18 = some (.if_icmp .ne 8, 21, 26, 0, 0) := by decide +kernel
theorem k69_21 : icode MCl 69 21 = some (.aload_n 0, 22, 0, 0, 0) := by decide +kernel
theorem k69_22 : icode MCl 69 22 = some (.invokevirtual 106, 25, 66, 878, 0) := by decide +kernel
theorem k69_25 : icode MCl 69 25 = some (.ireturn, 26, 0, 0, 0) := by decide +kernel
theorem k69_26 : icode MCl 69 26 = some (.iload_n 1, 27, 0, 0, 0) := by decide +kernel
theorem k69_27 : icode MCl 69 27 = some (.bipush 109, 29, 0, 0, 109) := by decide +kernel
theorem k69_29 : icode MCl 69 29 = some (.if_icmp .ne 8, 32, 37, 0, 0) := by decide +kernel
theorem k69_32 : icode MCl 69 32 = some (.aload_n 0, 33, 0, 0, 0) := by decide +kernel
theorem k69_33 : icode MCl 69 33 = some (.invokevirtual 110, 36, 68, 886, 0) := by decide +kernel
theorem k69_36 : icode MCl 69 36 = some (.ireturn, 37, 0, 0, 0) := by decide +kernel
theorem k69_37 : icode MCl 69 37 = some (.iload_n 1, 38, 0, 0, 0) := by decide +kernel
theorem k69_38 : icode MCl 69 38 = some (.bipush 105, 40, 0, 0, 105) := by decide +kernel
theorem k69_40 : icode MCl 69 40 = some (.if_icmp .ne 12, 43, 52, 0, 0) := by decide +kernel
theorem k69_43 : icode MCl 69 43 = some (.aload_n 0, 44, 0, 0, 0) := by decide +kernel
theorem k69_44 : icode MCl 69 44 = some (.bipush 59, 46, 0, 0, 59) := by decide +kernel
theorem k69_46 : icode MCl 69 46 = some (.invokevirtual 100, 49, 65, 882, 0) := by decide +kernel
theorem k69_49 : icode MCl 69 49 = some (.goto 4, 52, 53, 0, 0) := by decide +kernel
theorem k69_52 : icode MCl 69 52 = some (.iconst (-1), 53, 0, 0, (-1)) := by decide +kernel
theorem k69_53 : icode MCl 69 53 = some (.istore_n 2, 54, 0, 0, 0) := by decide +kernel
theorem k69_54 : icode MCl 69 54 = some (.aload_n 0, 55, 0, 0, 0) := by decide +kernel
theorem k69_55 : icode MCl 69 55 = some (.dup, 56, 0, 0, 0) := by decide +kernel
theorem k69_56 : icode MCl 69 56 = some (.getfield 65, 59, 805, 780, 0) := by decide +kernel
theorem k69_59 : icode MCl 69 59 = some (.iload_n 2, 60, 0, 0, 0) := by decide +kernel
theorem k69_60 : icode MCl 69 60 = some (.iconst 0, 61, 0, 0, 0) := by decide +kernel
theorem k69_61 : icode MCl 69 61 = some (.aload_n 0, 62, 0, 0, 0) := by decide +kernel
theorem k69_62 : icode MCl 69 62 = some (.getfield 84, 65, 803, 778, 0) := by decide +kernel
theorem k69_65 : icode MCl 69 65 = some (.iconst 1, 66, 0, 0, 1) := by decide +kernel
theorem k69_66 : icode MCl 69 66 = some (.isub, 67, 0, 0, 0) := by decide +kernel
theorem k69_67 : icode MCl 69 67 = some (.invokestatic 73, 70, 59, 855, 0) := by decide +kernel
theorem k69_70 : icode MCl 69 70 = some (.ifCond .eq 9, 73, 79, 0, 0) := by decide +kernel
theorem k69_73 : icode MCl 69 73 = some (.iconst 1, 74, 0, 0, 1) := by decide +kernel
theorem k69_74 : icode MCl 69 74 = some (.iload_n 2, 75, 0, 0, 0) := by decide +kernel
theorem k69_75 : icode MCl 69 75 = some (.ishl, 76, 0, 0, 0) := by decide +kernel
theorem k69_76 : icode MCl 69 76 = some (.goto 4, 79, 80, 0, 0) := by decide +kernel
theorem k69_79 : icode MCl 69 79 = some (.iconst 0, 80, 0, 0, 0) := by decide +kernel
theorem k69_80 : icode MCl 69 80 = some (.ior, 81, 0, 0, 0) := by decide +kernel
theorem k69_81 : icode MCl 69 81 = some (.putfield 65, 84, 805, 780, 0) := by decide +kernel
theorem k69_84 : icode MCl 69 84 = some (.iload_n 2, 85, 0, 0, 0) := by decide +kernel
theorem k69_85 : icode MCl 69 85 = some (.iconst 0, 86, 0, 0, 0) := by decide +kernel
theorem k69_86 : icode MCl 69 86 = some (.aload_n 0, 87, 0, 0, 0) := by decide +kernel
theorem k69_87 : icode MCl 69 87 = some (.getfield 84, 90, 803, 778, 0) := by decide +kernel
theorem k69_90 : icode MCl 69 90 = some (.iconst 1, 91, 0, 0, 1) := by decide +kernel
theorem k69_91 : icode MCl 69 91 = some (.isub, 92, 0, 0, 0) := by decide +kernel
theorem k69_92 : icode MCl 69 92 = some (.invokestatic 73, 95, 59, 855, 0) := by decide +kernel
theorem k69_95 : icode MCl 69 95 = some (.ireturn, 96, 0, 0, 0) := by decide +kernel
theorem k70_0 : icode MCl 70 0 = some (.aload_n 0, 1, 0, 0, 0) := by decide +kernel
theorem k70_1 : icode MCl 70 1 = some (.invokevirtual 55, 4, 52, 756, 0) := by decide +kernel
theorem k70_4 : icode MCl 70 4 = some (.aload_n 0, 5, 0, 0, 0) := by decide +kernel
theorem k70_5 : icode MCl 70 5 = some (.iconst 0, 6, 0, 0, 0) := by decide +kernel
theorem k70_6 : icode MCl 70 6 = some (.putfield 93, 9, 802, 777, 0) := by decide +kernel
theorem k70_9 : icode MCl 70 9 = some (.aload_n 0, 10, 0, 0, 0) := by decide +kernel
theorem k70_10 : icode MCl 70 10 = some (.getfield 93, 13, 802, 777, 0) := by decide +kernel
theorem k70_13 : icode MCl 70 13 = some (.aload_n 0, 14, 0, 0, 0) := by decide +kernel
theorem k70_14 : icode MCl 70 14 = some (.getfield 90, 17, 800, 775, 0) := by decide +kernel
theorem k70_17 : icode MCl 70 17 = some (.if_icmp .ge 20, 20, 37, 0, 0) := by decide +kernel
theorem k70_20 : icode MCl 70 20 = some (.aload_n 0, 21, 0, 0, 0) := by decide +kernel
theorem k70_21 : icode MCl 70 21 = some (.getfield 93, 24, 802, 777, 0) := by decide +kernel
theorem k70_24 : icode MCl 70 24 = some (.istore_n 1, 25, 0, 0, 0) := by decide +kernel
theorem k70_25 : icode MCl 70 25 = some (.aload_n 0, 26, 0, 0, 0) := by decide +kernel
theorem k70_26 : icode MCl 70 26 = some (.invokevirtual 113, 29, 69, 870, 0) := by decide +kernel
theorem k70_29 : icode MCl 70 29 = some (.ifCond .ne 5, 32, 34, 0, 0) := by decide +kernel
theorem k70_32 : icode MCl 70 32 = some (.iload_n 1, 33, 0, 0, 0) := by decide +kernel
theorem k70_33 : icode MCl 70 33 = some (.ireturn, 34, 0, 0, 0) := by decide +kernel
theorem k70_34 : icode MCl 70 34 = some (.goto (-25), 37, 9, 0, 0) := by decide +kernel
theorem k70_37 : icode MCl 70 37 = some (.bipush (-4), 39, 0, 0, (-4)) := by decide +kernel
theorem k70_39 : icode MCl 70 39 = some (.ireturn, 40, 0, 0, 0) := by decide +kernel
theorem k71_0 : icode MCl 71 0 = some (.aload_n 0, 1, 0, 0, 0) := by decide +kernel
theorem k71_1 : icode MCl 71 1 = some (.invokevirtual 116, 4, 70, 866, 0) := by decide +kernel
theorem k71_4 : icode MCl 71 4 = some (.ireturn, 5, 0, 0, 0) := by decide +kernel
theorem k72_0 : icode MCl 72 0 = some (.aload_n 0, 1, 0, 0, 0) := by decide +kernel
theorem k72_1 : icode MCl 72 1 = some (.getfield 21, 4, 603, 93, 0) := by decide +kernel
theorem k72_4 : icode MCl 72 4 = some (.ireturn, 5, 0, 0, 0) := by decide +kernel
theorem k73_0 : icode MCl 73 0 = some (.aload_n 0, 1, 0, 0, 0) := by decide +kernel
theorem k73_1 : icode MCl 73 1 = some (.getfield 21, 4, 701, 410, 1) := by decide +kernel
theorem k73_4 : icode MCl 73 4 = some (.invokevirtual 77, 7, 39, 273, 0) := by decide +kernel
theorem k73_7 : icode MCl 73 7 = some (.bipush (-4), 9, 0, 0, (-4)) := by decide +kernel
theorem k73_9 : icode MCl 73 9 = some (.if_icmp .ne 16, 12, 25, 0, 0) := by decide +kernel
theorem k73_12 : icode MCl 73 12 = some (.aload_n 0, 13, 0, 0, 0) := by decide +kernel
theorem k73_13 : icode MCl 73 13 = some (.getfield 21, 16, 701, 410, 1) := by decide +kernel
theorem k73_16 : icode MCl 73 16 = some (.getfield 91, 19, 400, 161, 1) := by decide +kernel
theorem k73_19 : icode MCl 73 19 = some (.invokevirtual 92, 22, 72, 453, 0) := by decide +kernel
theorem k73_22 : icode MCl 73 22 = some (.ifCond .ne 6, 25, 28, 0, 0) := by decide +kernel
theorem k73_25 : icode MCl 73 25 = some (.bipush (-2), 27, 0, 0, (-2)) := by decide +kernel
theorem k73_27 : icode MCl 73 27 = some (.ireturn, 28, 0, 0, 0) := by decide +kernel
theorem k73_28 : icode MCl 73 28 = some (.aload_n 0, 29, 0, 0, 0) := by decide +kernel
theorem k73_29 : icode MCl 73 29 = some (.invokevirtual 80, 32, 49, 364, 0) := by decide +kernel
theorem k73_32 : icode MCl 73 32 = some (.aload_n 0, 33, 0, 0, 0) := by decide +kernel
theorem k73_33 : icode MCl 73 33 = some (.getfield 28, 36, 702, 411, 1) := by decide +kernel
theorem k73_36 : icode MCl 73 36 = some (.invokevirtual 92, 39, 72, 453, 0) := by decide +kernel
theorem k73_39 : icode MCl 73 39 = some (.ireturn, 40, 0, 0, 0) := by decide +kernel
theorem k74_0 : icode MCl 74 0 = some (.aload_n 0, 1, 0, 0, 0) := by decide +kernel
theorem k74_1 : icode MCl 74 1 = some (.invokevirtual 116, 4, 70, 866, 0) := by decide +kernel
theorem k74_4 : icode MCl 74 4 = some (.bipush (-4), 6, 0, 0, (-4)) := by decide +kernel
theorem k74_6 : icode MCl 74 6 = some (.if_icmp .ne 10, 9, 16, 0, 0) := by decide +kernel
theorem k74_9 : icode MCl 74 9 = some (.aload_n 0, 10, 0, 0, 0) := by decide +kernel
theorem k74_10 : icode MCl 74 10 = some (.getfield 84, 13, 803, 778, 0) := by decide +kernel
theorem k74_13 : icode MCl 74 13 = some (.ifCond .ne 6, 16, 19, 0, 0) := by decide +kernel
theorem k74_16 : icode MCl 74 16 = some (.bipush (-2), 18, 0, 0, (-2)) := by decide +kernel
theorem k74_18 : icode MCl 74 18 = some (.ireturn, 19, 0, 0, 0) := by decide +kernel
theorem k74_19 : icode MCl 74 19 = some (.aload_n 0, 20, 0, 0, 0) := by decide +kernel
theorem k74_20 : icode MCl 74 20 = some (.invokevirtual 69, 23, 56, 768, 0) := by decide +kernel
theorem k74_23 : icode MCl 74 23 = some (.aload_n 0, 24, 0, 0, 0) := by decide +kernel
theorem k74_24 : icode MCl 74 24 = some (.getfield 119, 27, 812, 787, 0) := by decide +kernel
theorem k74_27 : icode MCl 74 27 = some (.ireturn, 28, 0, 0, 0) := by decide +kernel
theorem k75_0 : icode MCl 75 0 = some (.aload_n 0, 1, 0, 0, 0) := by decide +kernel
theorem k75_1 : icode MCl 75 1 = some (.getfield 15, 4, 101, 118, 0) := by decide +kernel
theorem k75_4 : icode MCl 75 4 = some (.iconst 1, 5, 0, 0, 1) := by decide +kernel
theorem k75_5 : icode MCl 75 5 = some (.if_icmp .ne 15, 8, 20, 0, 0) := by decide +kernel
theorem k75_8 : icode MCl 75 8 = some (.aload_n 0, 9, 0, 0, 0) := by decide +kernel
theorem k75_9 : icode MCl 75 9 = some (.getfield 18, 12, 102, 121, 0) := by decide +kernel
theorem k75_12 : icode MCl 75 12 = some (.iload_n 1, 13, 0, 0, 0) := by decide +kernel
theorem k75_13 : icode MCl 75 13 = some (.if_icmp .ne 7, 16, 20, 0, 0) := by decide +kernel
theorem k75_16 : icode MCl 75 16 = some (.iconst 1, 17, 0, 0, 1) := by decide +kernel
theorem k75_17 : icode MCl 75 17 = some (.goto 4, 20, 21, 0, 0) := by decide +kernel
theorem k75_20 : icode MCl 75 20 = some (.iconst 0, 21, 0, 0, 0) := by decide +kernel
theorem k75_21 : icode MCl 75 21 = some (.ireturn, 22, 0, 0, 0) := by decide +kernel
theorem k76_0 : icode MCl 76 0 = some (.iconst 0, 1, 0, 0, 0) := by decide +kernel
theorem k76_1 : icode MCl 76 1 = some (.istore_n 2, 2, 0, 0, 0) := by decide +kernel
theorem k76_2 : icode MCl 76 2 = some (.iconst 0, 3, 0, 0, 0) := by decide +kernel
theorem k76_3 : icode MCl 76 3 = some (.istore_n 3, 4, 0, 0, 0) := by decide +kernel
theorem k76_4 : icode MCl 76 4 = some (.iload_n 3, 5, 0, 0, 0) := by decide +kernel
theorem k76_5 : icode MCl 76 5 = some (.aload_n 0, 6, 0, 0, 0) := by decide +kernel
theorem k76_6 : icode MCl 76 6 = some (.getfield 22, 9, 202, 146, 0) := by decide +kernel
theorem k76_9 : icode MCl 76 9 = some (.if_icmp .ge 29, 12, 38, 0, 0) := by decide +kernel
theorem k76_12 : icode MCl 76 12 = some (.iload_n 2, 13, 0, 0, 0) := by decide +kernel
theorem k76_13 : icode MCl 76 13 = some (.aload_n 0, 14, 0, 0, 0) := by decide +kernel
theorem k76_14 : icode MCl 76 14 = some (.iload_n 3, 15, 0, 0, 0) := by decide +kernel
theorem k76_15 : icode MCl 76 15 = some (.invokevirtual 32, 18, 30, 341, 0) := by decide +kernel
theorem k76_18 : icode MCl 76 18 = some (.iload_n 1, 19, 0, 0, 0) := by decide +kernel
theorem k76_19 : icode MCl 76 19 = some (.invokevirtual 68, 22, 75, 470, 0) := by decide +kernel
theorem k76_22 : icode MCl 76 22 = some (.ifCond .eq 7, 25, 29, 0, 0) := by decide +kernel
theorem k76_25 : icode MCl 76 25 = some (.iconst 1, 26, 0, 0, 1) := by decide +kernel
theorem k76_26 : icode MCl 76 26 = some (.goto 4, 29, 30, 0, 0) := by decide +kernel
theorem k76_29 : icode MCl 76 29 = some (.iconst 0, 30, 0, 0, 0) := by decide +kernel
theorem k76_30 : icode MCl 76 30 = some (.iadd, 31, 0, 0, 0) := by decide +kernel
theorem k76_31 : icode MCl 76 31 = some (.istore_n 2, 32, 0, 0, 0) := by decide +kernel
theorem k76_32 : icode MCl 76 32 = some (.iinc 3 1, 35, 0, 0, 1) := by decide +kernel
theorem k76_35 : icode MCl 76 35 = some (.goto (-31), 38, 4, 0, 0) := by decide +kernel
theorem k76_38 : icode MCl 76 38 = some (.iload_n 2, 39, 0, 0, 0) := by decide +kernel
theorem k76_39 : icode MCl 76 39 = some (.ireturn, 40, 0, 0, 0) := by decide +kernel
theorem k77_0 : icode MCl 77 0 = some (.aload_n 0, 1, 0, 0, 0) := by decide +kernel
theorem k77_1 : icode MCl 77 1 = some (.getfield 28, 4, 702, 411, 1) := by decide +kernel
theorem k77_4 : icode MCl 77 4 = some (.iload_n 1, 5, 0, 0, 0) := by decide +kernel
theorem k77_5 : icode MCl 77 5 = some (.invokevirtual 95, 8, 29, 461, 0) := by decide +kernel
theorem k77_8 : icode MCl 77 8 = some (.ifCond .ne 5, 11, 13, 0, 0) := by decide +kernel
theorem k77_11 : icode MCl 77 11 = some (.iconst (-1), 12, 0, 0, (-1)) := by decide +kernel
theorem k77_12 : icode MCl 77 12 = some (.ireturn, 13, 0, 0, 0) := by decide +kernel
theorem k77_13 : icode MCl 77 13 = some (.iload_n 2, 14, 0, 0, 0) := by decide +kernel
theorem k77_14 : icode MCl 77 14 = some (.tableswitch 87 0 4 #[34, 43, 52, 61, 78], 48, 0, 0, 0) := by decide +kernel
theorem k77_48 : icode MCl 77 48 = some (.aload_n 0, 49, 0, 0, 0) := by decide +kernel
theorem k77_49 : icode MCl 77 49 = some (.getfield 28, 52, 702, 411, 1) := by decide +kernel
theorem k77_52 : icode MCl 77 52 = some (.iload_n 1, 53, 0, 0, 0) := by decide +kernel
theorem k77_53 : icode MCl 77 53 = some (.invokevirtual 98, 56, 41, 462, 0) := by decide +kernel
theorem k77_56 : icode MCl 77 56 = some (.ireturn, 57, 0, 0, 0) := by decide +kernel
theorem k77_57 : icode MCl 77 57 = some (.aload_n 0, 58, 0, 0, 0) := by decide +kernel
theorem k77_58 : icode MCl 77 58 = some (.getfield 28, 61, 702, 411, 1) := by decide +kernel
theorem k77_61 : icode MCl 77 61 = some (.iload_n 1, 62, 0, 0, 0) := by decide +kernel
theorem k77_62 : icode MCl 77 62 = some (.invokevirtual 102, 65, 42, 463, 0) := by decide +kernel
theorem k77_65 : icode MCl 77 65 = some (.ireturn, 66, 0, 0, 0) := by decide +kernel
theorem k77_66 : icode MCl 77 66 = some (.aload_n 0, 67, 0, 0, 0) := by decide +kernel
theorem k77_67 : icode MCl 77 67 = some (.getfield 28, 70, 702, 411, 1) := by decide +kernel
theorem k77_70 : icode MCl 77 70 = some (.iload_n 1, 71, 0, 0, 0) := by decide +kernel
theorem k77_71 : icode MCl 77 71 = some (.invokevirtual 105, 74, 43, 464, 0) := by decide +kernel
theorem k77_74 : icode MCl 77 74 = some (.ireturn, 75, 0, 0, 0) := by decide +kernel
theorem k77_75 : icode MCl 77 75 = some (.aload_n 0, 76, 0, 0, 0) := by decide +kernel
theorem k77_76 : icode MCl 77 76 = some (.getfield 35, 79, 703, 412, 1) := by decide +kernel
theorem k77_79 : icode MCl 77 79 = some (.iload_n 1, 80, 0, 0, 0) := by decide +kernel
theorem k77_80 : icode MCl 77 80 = some (.invokevirtual 108, 83, 35, 465, 0) := by decide +kernel
theorem k77_83 : icode MCl 77 83 = some (.ifCond .eq 7, 86, 90, 0, 0) := by decide +kernel
theorem k77_86 : icode MCl 77 86 = some (.iconst 1, 87, 0, 0, 1) := by decide +kernel
theorem k77_87 : icode MCl 77 87 = some (.goto 4, 90, 91, 0, 0) := by decide +kernel
theorem k77_90 : icode MCl 77 90 = some (.iconst 0, 91, 0, 0, 0) := by decide +kernel
theorem k77_91 : icode MCl 77 91 = some (.ireturn, 92, 0, 0, 0) := by decide +kernel
theorem k77_92 : icode MCl 77 92 = some (.aload_n 0, 93, 0, 0, 0) := by decide +kernel
theorem k77_93 : icode MCl 77 93 = some (.getfield 35, 96, 703, 412, 1) := by decide +kernel
theorem k77_96 : icode MCl 77 96 = some (.iload_n 1, 97, 0, 0, 0) := by decide +kernel
theorem k77_97 : icode MCl 77 97 = some (.invokevirtual 111, 100, 76, 466, 0) := by decide +kernel
theorem k77_100 : icode MCl 77 100 = some (.ireturn, 101, 0, 0, 0) := by decide +kernel
theorem k77_101 : icode MCl 77 101 = some (.iconst (-1), 102, 0, 0, (-1)) := by decide +kernel
theorem k77_102 : icode MCl 77 102 = some (.ireturn, 103, 0, 0, 0) := by decide +kernel
theorem k78_0 : icode MCl 78 0 = some (.iload_n 1, 1, 0, 0, 0) := by decide +kernel
theorem k78_1 : icode MCl 78 1 = some (.iconst 0, 2, 0, 0, 0) := by decide +kernel
theorem k78_2 : icode MCl 78 2 = some (.aload_n 0, 3, 0, 0, 0) := by decide +kernel
theorem k78_3 : icode MCl 78 3 = some (.getfield 119, 6, 812, 787, 0) := by decide +kernel
theorem k78_6 : icode MCl 78 6 = some (.iconst 1, 7, 0, 0, 1) := by decide +kernel
theorem k78_7 : icode MCl 78 7 = some (.isub, 8, 0, 0, 0) := by decide +kernel
theorem k78_8 : icode MCl 78 8 = some (.invokestatic 73, 11, 59, 855, 0) := by decide +kernel
theorem k78_11 : icode MCl 78 11 = some (.ireturn, 12, 0, 0, 0) := by decide +kernel
theorem k79_0 : icode MCl 79 0 = some (.aload_n 0, 1, 0, 0, 0) := by decide +kernel
theorem k79_1 : icode MCl 79 1 = some (.iconst 3, 2, 0, 0, 3) := by decide +kernel
theorem k79_2 : icode MCl 79 2 = some (.bipush 6, 4, 0, 0, 6) := by decide +kernel
theorem k79_4 : icode MCl 79 4 = some (.iload_n 1, 5, 0, 0, 0) := by decide +kernel
theorem k79_5 : icode MCl 79 5 = some (.imul, 6, 0, 0, 0) := by decide +kernel
theorem k79_6 : icode MCl 79 6 = some (.iadd, 7, 0, 0, 0) := by decide +kernel
theorem k79_7 : icode MCl 79 7 = some (.iload_n 2, 8, 0, 0, 0) := by decide +kernel
theorem k79_8 : icode MCl 79 8 = some (.iadd, 9, 0, 0, 0) := by decide +kernel
theorem k79_9 : icode MCl 79 9 = some (.iaload, 10, 0, 0, 0) := by decide +kernel
theorem k79_10 : icode MCl 79 10 = some (.ireturn, 11, 0, 0, 0) := by decide +kernel
theorem k80_0 : icode MCl 80 0 = some (.iconst 0, 1, 0, 0, 0) := by decide +kernel
theorem k80_1 : icode MCl 80 1 = some (.istore_n 2, 2, 0, 0, 0) := by decide +kernel
theorem k80_2 : icode MCl 80 2 = some (.iconst 0, 3, 0, 0, 0) := by decide +kernel
theorem k80_3 : icode MCl 80 3 = some (.istore_n 3, 4, 0, 0, 0) := by decide +kernel
theorem k80_4 : icode MCl 80 4 = some (.iload_n 3, 5, 0, 0, 0) := by decide +kernel
theorem k80_5 : icode MCl 80 5 = some (.aload_n 0, 6, 0, 0, 0) := by decide +kernel
theorem k80_6 : icode MCl 80 6 = some (.getfield 40, 9, 816, 791, 1) := by decide +kernel
theorem k80_9 : icode MCl 80 9 = some (.iconst 2, 10, 0, 0, 2) := by decide +kernel
theorem k80_10 : icode MCl 80 10 = some (.iaload, 11, 0, 0, 0) := by decide +kernel
theorem k80_11 : icode MCl 80 11 = some (.if_icmp .ge 43, 14, 54, 0, 0) := by decide +kernel
theorem k80_14 : icode MCl 80 14 = some (.iload_n 2, 15, 0, 0, 0) := by decide +kernel
theorem k80_15 : icode MCl 80 15 = some (.aload_n 0, 16, 0, 0, 0) := by decide +kernel
theorem k80_16 : icode MCl 80 16 = some (.getfield 40, 19, 816, 791, 1) := by decide +kernel
theorem k80_19 : icode MCl 80 19 = some (.iload_n 3, 20, 0, 0, 0) := by decide +kernel
theorem k80_20 : icode MCl 80 20 = some (.iconst 1, 21, 0, 0, 1) := by decide +kernel
theorem k80_21 : icode MCl 80 21 = some (.invokestatic 135, 24, 79, 910, 0) := by decide +kernel
theorem k80_24 : icode MCl 80 24 = some (.iconst 1, 25, 0, 0, 1) := by decide +kernel
theorem k80_25 : icode MCl 80 25 = some (.if_icmp .ne 20, 28, 45, 0, 0) := by decide +kernel
theorem k80_28 : icode MCl 80 28 = some (.aload_n 0, 29, 0, 0, 0) := by decide +kernel
theorem k80_29 : icode MCl 80 29 = some (.getfield 40, 32, 816, 791, 1) := by decide +kernel
theorem k80_32 : icode MCl 80 32 = some (.iload_n 3, 33, 0, 0, 0) := by decide +kernel
theorem k80_33 : icode MCl 80 33 = some (.iconst 2, 34, 0, 0, 2) := by decide +kernel
theorem k80_34 : icode MCl 80 34 = some (.invokestatic 135, 37, 79, 910, 0) := by decide +kernel
theorem k80_37 : icode MCl 80 37 = some (.iload_n 1, 38, 0, 0, 0) := by decide +kernel
theorem k80_38 : icode MCl 80 38 = some (.if_icmp .ne 7, 41, 45, 0, 0) := by decide +kernel
theorem k80_41 : icode MCl 80 41 = some (.iconst 1, 42, 0, 0, 1) := by decide +kernel
theorem k80_42 : icode MCl 80 42 = some (.goto 4, 45, 46, 0, 0) := by decide +kernel
theorem k80_45 : icode MCl 80 45 = some (.iconst 0, 46, 0, 0, 0) := by decide +kernel
theorem k80_46 : icode MCl 80 46 = some (.iadd, 47, 0, 0, 0) := by decide +kernel
theorem k80_47 : icode MCl 80 47 = some (.istore_n 2, 48, 0, 0, 0) := by decide +kernel
theorem k80_48 : icode MCl 80 48 = some (.iinc 3 1, 51, 0, 0, 1) := by decide +kernel
theorem k80_51 : icode MCl 80 51 = some (.goto (-47), 54, 4, 0, 0) := by decide +kernel
theorem k80_54 : icode MCl 80 54 = some (.iload_n 2, 55, 0, 0, 0) := by decide +kernel
theorem k80_55 : icode MCl 80 55 = some (.ireturn, 56, 0, 0, 0) := by decide +kernel
theorem k81_0 : icode MCl 81 0 = some (.aload_n 0, 1, 0, 0, 0) := by decide +kernel
theorem k81_1 : icode MCl 81 1 = some (.iload_n 1, 2, 0, 0, 0) := by decide +kernel
theorem k81_2 : icode MCl 81 2 = some (.invokevirtual 139, 5, 78, 902, 0) := by decide +kernel
theorem k81_5 : icode MCl 81 5 = some (.ifCond .ne 5, 8, 10, 0, 0) := by decide +kernel
theorem k81_8 : icode MCl 81 8 = some (.iconst (-1), 9, 0, 0, (-1)) := by decide +kernel
theorem k81_9 : icode MCl 81 9 = some (.ireturn, 10, 0, 0, 0) := by decide +kernel
theorem k81_10 : icode MCl 81 10 = some (.iload_n 2, 11, 0, 0, 0) := by decide +kernel
theorem k81_11 : icode MCl 81 11 = some (.tableswitch 71 0 4 #[33, 40, 47, 54, 65], 44, 0, 0, 0) := by decide +kernel
theorem k81_44 : icode MCl 81 44 = some (.aload_n 0, 45, 0, 0, 0) := by decide +kernel
theorem k81_45 : icode MCl 81 45 = some (.getfield 31, 48, 813, 788, 1) := by decide +kernel
theorem k81_48 : icode MCl 81 48 = some (.iload_n 1, 49, 0, 0, 0) := by decide +kernel
theorem k81_49 : icode MCl 81 49 = some (.iaload, 50, 0, 0, 0) := by decide +kernel
theorem k81_50 : icode MCl 81 50 = some (.ireturn, 51, 0, 0, 0) := by decide +kernel
theorem k81_51 : icode MCl 81 51 = some (.aload_n 0, 52, 0, 0, 0) := by decide +kernel
theorem k81_52 : icode MCl 81 52 = some (.getfield 34, 55, 814, 789, 1) := by decide +kernel
theorem k81_55 : icode MCl 81 55 = some (.iload_n 1, 56, 0, 0, 0) := by decide +kernel
theorem k81_56 : icode MCl 81 56 = some (.iaload, 57, 0, 0, 0) := by decide +kernel
theorem k81_57 : icode MCl 81 57 = some (.ireturn, 58, 0, 0, 0) := by decide +kernel
theorem k81_58 : icode MCl 81 58 = some (.aload_n 0, 59, 0, 0, 0) := by decide +kernel
theorem k81_59 : icode MCl 81 59 = some (.getfield 37, 62, 815, 790, 1) := by decide +kernel
theorem k81_62 : icode MCl 81 62 = some (.iload_n 1, 63, 0, 0, 0) := by decide +kernel
theorem k81_63 : icode MCl 81 63 = some (.iaload, 64, 0, 0, 0) := by decide +kernel
theorem k81_64 : icode MCl 81 64 = some (.ireturn, 65, 0, 0, 0) := by decide +kernel
theorem k81_65 : icode MCl 81 65 = some (.aload_n 0, 66, 0, 0, 0) := by decide +kernel
theorem k81_66 : icode MCl 81 66 = some (.getfield 40, 69, 816, 791, 1) := by decide +kernel
theorem k81_69 : icode MCl 81 69 = some (.iconst 1, 70, 0, 0, 1) := by decide +kernel
theorem k81_70 : icode MCl 81 70 = some (.iaload, 71, 0, 0, 0) := by decide +kernel
theorem k81_71 : icode MCl 81 71 = some (.iload_n 1, 72, 0, 0, 0) := by decide +kernel
theorem k81_72 : icode MCl 81 72 = some (.ishr, 73, 0, 0, 0) := by decide +kernel
theorem k81_73 : icode MCl 81 73 = some (.iconst 1, 74, 0, 0, 1) := by decide +kernel
theorem k81_74 : icode MCl 81 74 = some (.iand, 75, 0, 0, 0) := by decide +kernel
theorem k81_75 : icode MCl 81 75 = some (.ireturn, 76, 0, 0, 0) := by decide +kernel
theorem k81_76 : icode MCl 81 76 = some (.aload_n 0, 77, 0, 0, 0) := by decide +kernel
theorem k81_77 : icode MCl 81 77 = some (.iload_n 1, 78, 0, 0, 0) := by decide +kernel
theorem k81_78 : icode MCl 81 78 = some (.invokevirtual 143, 81, 80, 906, 0) := by decide +kernel
theorem k81_81 : icode MCl 81 81 = some (.ireturn, 82, 0, 0, 0) := by decide +kernel
theorem k81_82 : icode MCl 81 82 = some (.iconst (-1), 83, 0, 0, (-1)) := by decide +kernel
theorem k81_83 : icode MCl 81 83 = some (.ireturn, 84, 0, 0, 0) := by decide +kernel
theorem k82_0 : icode MCl 82 0 = some (.iload_n 1, 1, 0, 0, 0) := by decide +kernel
theorem k82_1 : icode MCl 82 1 = some (.ifCond .lt 15, 4, 16, 0, 0) := by decide +kernel
theorem k82_4 : icode MCl 82 4 = some (.iload_n 1, 5, 0, 0, 0) := by decide +kernel
theorem k82_5 : icode MCl 82 5 = some (.aload_n 0, 6, 0, 0, 0) := by decide +kernel
theorem k82_6 : icode MCl 82 6 = some (.getfield 22, 9, 202, 146, 0) := by decide +kernel
theorem k82_9 : icode MCl 82 9 = some (.if_icmp .ge 7, 12, 16, 0, 0) := by decide +kernel
theorem k82_12 : icode MCl 82 12 = some (.iconst 1, 13, 0, 0, 1) := by decide +kernel
theorem k82_13 : icode MCl 82 13 = some (.goto 4, 16, 17, 0, 0) := by decide +kernel
theorem k82_16 : icode MCl 82 16 = some (.iconst 0, 17, 0, 0, 0) := by decide +kernel
theorem k82_17 : icode MCl 82 17 = some (.ireturn, 18, 0, 0, 0) := by decide +kernel
theorem k83_0 : icode MCl 83 0 = some (.aload_n 0, 1, 0, 0, 0) := by decide +kernel
theorem k83_1 : icode MCl 83 1 = some (.getfield 35, 4, 703, 412, 1) := by decide +kernel
theorem k83_4 : icode MCl 83 4 = some (.iload_n 1, 5, 0, 0, 0) := by decide +kernel
theorem k83_5 : icode MCl 83 5 = some (.invokevirtual 114, 8, 82, 478, 0) := by decide +kernel
theorem k83_8 : icode MCl 83 8 = some (.ifCond .ne 5, 11, 13, 0, 0) := by decide +kernel
theorem k83_11 : icode MCl 83 11 = some (.iconst (-1), 12, 0, 0, (-1)) := by decide +kernel
theorem k83_12 : icode MCl 83 12 = some (.ireturn, 13, 0, 0, 0) := by decide +kernel
theorem k83_13 : icode MCl 83 13 = some (.aload_n 0, 14, 0, 0, 0) := by decide +kernel
theorem k83_14 : icode MCl 83 14 = some (.getfield 35, 17, 703, 412, 1) := by decide +kernel
theorem k83_17 : icode MCl 83 17 = some (.iload_n 1, 18, 0, 0, 0) := by decide +kernel
theorem k83_18 : icode MCl 83 18 = some (.invokevirtual 115, 21, 30, 482, 0) := by decide +kernel
theorem k83_21 : icode MCl 83 21 = some (.astore_n 3, 22, 0, 0, 0) := by decide +kernel
theorem k83_22 : icode MCl 83 22 = some (.iload_n 2, 23, 0, 0, 0) := by decide +kernel
theorem k83_23 : icode MCl 83 23 = some (.tableswitch 80 0 5 #[37, 42, 47, 52, 57, 62], 60, 0, 0, 0) := by decide +kernel
theorem k83_60 : icode MCl 83 60 = some (.aload_n 3, 61, 0, 0, 0) := by decide +kernel
theorem k83_61 : icode MCl 83 61 = some (.getfield 119, 64, 100, 117, 0) := by decide +kernel
theorem k83_64 : icode MCl 83 64 = some (.ireturn, 65, 0, 0, 0) := by decide +kernel
theorem k83_65 : icode MCl 83 65 = some (.aload_n 3, 66, 0, 0, 0) := by decide +kernel
theorem k83_66 : icode MCl 83 66 = some (.getfield 125, 69, 101, 119, 0) := by decide +kernel
theorem k83_69 : icode MCl 83 69 = some (.ireturn, 70, 0, 0, 0) := by decide +kernel
theorem k83_70 : icode MCl 83 70 = some (.aload_n 3, 71, 0, 0, 0) := by decide +kernel
theorem k83_71 : icode MCl 83 71 = some (.getfield 128, 74, 102, 122, 0) := by decide +kernel
theorem k83_74 : icode MCl 83 74 = some (.ireturn, 75, 0, 0, 0) := by decide +kernel
theorem k83_75 : icode MCl 83 75 = some (.aload_n 3, 76, 0, 0, 0) := by decide +kernel
theorem k83_76 : icode MCl 83 76 = some (.getfield 131, 79, 103, 125, 0) := by decide +kernel
theorem k83_79 : icode MCl 83 79 = some (.ireturn, 80, 0, 0, 0) := by decide +kernel
theorem k83_80 : icode MCl 83 80 = some (.aload_n 3, 81, 0, 0, 0) := by decide +kernel
theorem k83_81 : icode MCl 83 81 = some (.getfield 134, 84, 104, 128, 0) := by decide +kernel
theorem k83_84 : icode MCl 83 84 = some (.ireturn, 85, 0, 0, 0) := by decide +kernel
theorem k83_85 : icode MCl 83 85 = some (.aload_n 3, 86, 0, 0, 0) := by decide +kernel
theorem k83_86 : icode MCl 83 86 = some (.getfield 125, 89, 101, 119, 0) := by decide +kernel
theorem k83_89 : icode MCl 83 89 = some (.iconst 2, 90, 0, 0, 2) := by decide +kernel
theorem k83_90 : icode MCl 83 90 = some (.if_icmp .ne 10, 93, 100, 0, 0) := by decide +kernel
theorem k83_93 : icode MCl 83 93 = some (.aload_n 3, 94, 0, 0, 0) := by decide +kernel
theorem k83_94 : icode MCl 83 94 = some (.getfield 137, 97, 105, 130, 0) := by decide +kernel
theorem k83_97 : icode MCl 83 97 = some (.goto 5, 100, 102, 0, 0) := by decide +kernel
theorem k83_100 : icode MCl 83 100 = some (.bipush (-4), 102, 0, 0, (-4)) := by decide +kernel
theorem k83_102 : icode MCl 83 102 = some (.ireturn, 103, 0, 0, 0) := by decide +kernel
theorem k83_103 : icode MCl 83 103 = some (.iconst (-1), 104, 0, 0, (-1)) := by decide +kernel
theorem k83_104 : icode MCl 83 104 = some (.ireturn, 105, 0, 0, 0) := by decide +kernel
theorem k84_0 : icode MCl 84 0 = some (.iload_n 1, 1, 0, 0, 0) := by decide +kernel
theorem k84_1 : icode MCl 84 1 = some (.iconst 0, 2, 0, 0, 0) := by decide +kernel
theorem k84_2 : icode MCl 84 2 = some (.aload_n 0, 3, 0, 0, 0) := by decide +kernel
theorem k84_3 : icode MCl 84 3 = some (.getfield 40, 6, 816, 791, 1) := by decide +kernel
theorem k84_6 : icode MCl 84 6 = some (.iconst 2, 7, 0, 0, 2) := by decide +kernel
theorem k84_7 : icode MCl 84 7 = some (.iaload, 8, 0, 0, 0) := by decide +kernel
theorem k84_8 : icode MCl 84 8 = some (.iconst 1, 9, 0, 0, 1) := by decide +kernel
theorem k84_9 : icode MCl 84 9 = some (.isub, 10, 0, 0, 0) := by decide +kernel
theorem k84_10 : icode MCl 84 10 = some (.invokestatic 73, 13, 59, 855, 0) := by decide +kernel
theorem k84_13 : icode MCl 84 13 = some (.ireturn, 14, 0, 0, 0) := by decide +kernel
theorem k85_0 : icode MCl 85 0 = some (.aload_n 0, 1, 0, 0, 0) := by decide +kernel
theorem k85_1 : icode MCl 85 1 = some (.iload_n 1, 2, 0, 0, 0) := by decide +kernel
theorem k85_2 : icode MCl 85 2 = some (.invokevirtual 146, 5, 84, 917, 0) := by decide +kernel
theorem k85_5 : icode MCl 85 5 = some (.ifCond .eq 24, 8, 29, 0, 0) := by decide +kernel
theorem k85_8 : icode MCl 85 8 = some (.iload_n 2, 9, 0, 0, 0) := by decide +kernel
theorem k85_9 : icode MCl 85 9 = some (.iconst 0, 10, 0, 0, 0) := by decide +kernel
theorem k85_10 : icode MCl 85 10 = some (.iconst 5, 11, 0, 0, 5) := by decide +kernel
theorem k85_11 : icode MCl 85 11 = some (.invokestatic 73, 14, 59, 855, 0) := by decide +kernel
theorem k85_14 : icode MCl 85 14 = some (.ifCond .eq 15, 17, 29, 0, 0) := by decide +kernel
theorem k85_17 : icode MCl 85 17 = some (.aload_n 0, 18, 0, 0, 0) := by decide +kernel
theorem k85_18 : icode MCl 85 18 = some (.getfield 40, 21, 816, 791, 1) := by decide +kernel
theorem k85_21 : icode MCl 85 21 = some (.iload_n 1, 22, 0, 0, 0) := by decide +kernel
theorem k85_22 : icode MCl 85 22 = some (.iload_n 2, 23, 0, 0, 0) := by decide +kernel
theorem k85_23 : icode MCl 85 23 = some (.invokestatic 135, 26, 79, 910, 0) := by decide +kernel
theorem k85_26 : icode MCl 85 26 = some (.goto 4, 29, 30, 0, 0) := by decide +kernel
theorem k85_29 : icode MCl 85 29 = some (.iconst (-1), 30, 0, 0, (-1)) := by decide +kernel
theorem k85_30 : icode MCl 85 30 = some (.ireturn, 31, 0, 0, 0) := by decide +kernel
theorem k86_0 : icode MCl 86 0 = some (.iconst 0, 1, 0, 0, 0) := by decide +kernel
theorem k86_1 : icode MCl 86 1 = some (.istore_n 1, 2, 0, 0, 0) := by decide +kernel
theorem k86_2 : icode MCl 86 2 = some (.iload_n 1, 3, 0, 0, 0) := by decide +kernel
theorem k86_3 : icode MCl 86 3 = some (.bipush 8, 5, 0, 0, 8) := by decide +kernel
theorem k86_5 : icode MCl 86 5 = some (.if_icmp .ge 17, 8, 22, 0, 0) := by decide +kernel
theorem k86_8 : icode MCl 86 8 = some (.iload_n 0, 9, 0, 0, 0) := by decide +kernel
theorem k86_9 : icode MCl 86 9 = some (.iconst 2, 10, 0, 0, 2) := by decide +kernel
theorem k86_10 : icode MCl 86 10 = some (.iload_n 1, 11, 0, 0, 0) := by decide +kernel
theorem k86_11 : icode MCl 86 11 = some (.imul, 12, 0, 0, 0) := by decide +kernel
theorem k86_12 : icode MCl 86 12 = some (.ishr, 13, 0, 0, 0) := by decide +kernel
theorem k86_13 : icode MCl 86 13 = some (.ifCond .le 9, 16, 22, 0, 0) := by decide +kernel
theorem k86_16 : icode MCl 86 16 = some (.iinc 1 1, 19, 0, 0, 1) := by decide +kernel
theorem k86_19 : icode MCl 86 19 = some (.goto (-17), 22, 2, 0, 0) := by decide +kernel
theorem k86_22 : icode MCl 86 22 = some (.iload_n 1, 23, 0, 0, 0) := by decide +kernel
theorem k86_23 : icode MCl 86 23 = some (.ireturn, 24, 0, 0, 0) := by decide +kernel
theorem k87_0 : icode MCl 87 0 = some (.iload_n 0, 1, 0, 0, 0) := by decide +kernel
theorem k87_1 : icode MCl 87 1 = some (.iconst 2, 2, 0, 0, 2) := by decide +kernel
theorem k87_2 : icode MCl 87 2 = some (.iload_n 1, 3, 0, 0, 0) := by decide +kernel
theorem k87_3 : icode MCl 87 3 = some (.imul, 4, 0, 0, 0) := by decide +kernel
theorem k87_4 : icode MCl 87 4 = some (.ishr, 5, 0, 0, 0) := by decide +kernel
theorem k87_5 : icode MCl 87 5 = some (.iconst 3, 6, 0, 0, 3) := by decide +kernel
theorem k87_6 : icode MCl 87 6 = some (.iand, 7, 0, 0, 0) := by decide +kernel
theorem k87_7 : icode MCl 87 7 = some (.ireturn, 8, 0, 0, 0) := by decide +kernel
theorem k88_0 : icode MCl 88 0 = some (.iload_n 0, 1, 0, 0, 0) := by decide +kernel
theorem k88_1 : icode MCl 88 1 = some (.iconst 1, 2, 0, 0, 1) := by decide +kernel
theorem k88_2 : icode MCl 88 2 = some (.ldc 9, 4, 0, 493, 65535) := by decide +kernel
theorem k88_4 : icode MCl 88 4 = some (.invokestatic 10, 7, 22, 494, 1) := by decide +kernel
theorem k88_7 : icode MCl 88 7 = some (.ifCond .ne 5, 10, 12, 0, 0) := by decide +kernel
theorem k88_10 : icode MCl 88 10 = some (.iconst 0, 11, 0, 0, 0) := by decide +kernel
theorem k88_11 : icode MCl 88 11 = some (.ireturn, 12, 0, 0, 0) := by decide +kernel
theorem k88_12 : icode MCl 88 12 = some (.iload_n 0, 13, 0, 0, 0) := by decide +kernel
theorem k88_13 : icode MCl 88 13 = some (.invokestatic 14, 16, 86, 495, 0) := by decide +kernel
theorem k88_16 : icode MCl 88 16 = some (.iconst 1, 17, 0, 0, 1) := by decide +kernel
theorem k88_17 : icode MCl 88 17 = some (.isub, 18, 0, 0, 0) := by decide +kernel
theorem k88_18 : icode MCl 88 18 = some (.istore_n 1, 19, 0, 0, 0) := by decide +kernel
theorem k88_19 : icode MCl 88 19 = some (.iload_n 1, 20, 0, 0, 0) := by decide +kernel
theorem k88_20 : icode MCl 88 20 = some (.ifCond .lt 19, 23, 39, 0, 0) := by decide +kernel
theorem k88_23 : icode MCl 88 23 = some (.iload_n 0, 24, 0, 0, 0) := by decide +kernel
theorem k88_24 : icode MCl 88 24 = some (.iload_n 1, 25, 0, 0, 0) := by decide +kernel
theorem k88_25 : icode MCl 88 25 = some (.invokestatic 20, 28, 87, 498, 0) := by decide +kernel
theorem k88_28 : icode MCl 88 28 = some (.ifCond .ne 5, 31, 33, 0, 0) := by decide +kernel
theorem k88_31 : icode MCl 88 31 = some (.iconst 0, 32, 0, 0, 0) := by decide +kernel
theorem k88_32 : icode MCl 88 32 = some (.ireturn, 33, 0, 0, 0) := by decide +kernel
theorem k88_33 : icode MCl 88 33 = some (.iinc 1 (-1), 36, 0, 0, (-1)) := by decide +kernel
theorem k88_36 : icode MCl 88 36 = some (.goto (-17), 39, 19, 0, 0) := by decide +kernel
theorem k88_39 : icode MCl 88 39 = some (.iconst 1, 40, 0, 0, 1) := by decide +kernel
theorem k88_40 : icode MCl 88 40 = some (.ireturn, 41, 0, 0, 0) := by decide +kernel
theorem k89_0 : icode MCl 89 0 = some (.iload_n 0, 1, 0, 0, 0) := by decide +kernel
theorem k89_1 : icode MCl 89 1 = some (.ifCond .eq 10, 4, 11, 0, 0) := by decide +kernel
theorem k89_4 : icode MCl 89 4 = some (.iload_n 0, 5, 0, 0, 0) := by decide +kernel
theorem k89_5 : icode MCl 89 5 = some (.invokestatic 24, 8, 88, 490, 0) := by decide +kernel
theorem k89_8 : icode MCl 89 8 = some (.ifCond .eq 7, 11, 15, 0, 0) := by decide +kernel
theorem k89_11 : icode MCl 89 11 = some (.iconst 1, 12, 0, 0, 1) := by decide +kernel
theorem k89_12 : icode MCl 89 12 = some (.goto 4, 15, 16, 0, 0) := by decide +kernel
theorem k89_15 : icode MCl 89 15 = some (.iconst 0, 16, 0, 0, 0) := by decide +kernel
theorem k89_16 : icode MCl 89 16 = some (.ireturn, 17, 0, 0, 0) := by decide +kernel
theorem k90_0 : icode MCl 90 0 = some (.iload_n 0, 1, 0, 0, 0) := by decide +kernel
theorem k90_1 : icode MCl 90 1 = some (.invokestatic 14, 4, 86, 495, 0) := by decide +kernel
theorem k90_4 : icode MCl 90 4 = some (.istore_n 1, 5, 0, 0, 0) := by decide +kernel
theorem k90_5 : icode MCl 90 5 = some (.iconst 0, 6, 0, 0, 0) := by decide +kernel
theorem k90_6 : icode MCl 90 6 = some (.istore_n 2, 7, 0, 0, 0) := by decide +kernel
theorem k90_7 : icode MCl 90 7 = some (.iconst 1, 8, 0, 0, 1) := by decide +kernel
theorem k90_8 : icode MCl 90 8 = some (.istore_n 3, 9, 0, 0, 0) := by decide +kernel
theorem k90_9 : icode MCl 90 9 = some (.iload_n 3, 10, 0, 0, 0) := by decide +kernel
theorem k90_10 : icode MCl 90 10 = some (.iload_n 1, 11, 0, 0, 0) := by decide +kernel
theorem k90_11 : icode MCl 90 11 = some (.if_icmp .gt 27, 14, 38, 0, 0) := by decide +kernel
theorem k90_14 : icode MCl 90 14 = some (.iload_n 3, 15, 0, 0, 0) := by decide +kernel
theorem k90_15 : icode MCl 90 15 = some (.iconst 3, 16, 0, 0, 3) := by decide +kernel
theorem k90_16 : icode MCl 90 16 = some (.irem, 17, 0, 0, 0) := by decide +kernel
theorem k90_17 : icode MCl 90 17 = some (.ifCond .eq 15, 20, 32, 0, 0) := by decide +kernel
theorem k90_20 : icode MCl 90 20 = some (.iload_n 2, 21, 0, 0, 0) := by decide +kernel
theorem k90_21 : icode MCl 90 21 = some (.iload_n 0, 22, 0, 0, 0) := by decide +kernel
theorem k90_22 : icode MCl 90 22 = some (.iload_n 1, 23, 0, 0, 0) := by decide +kernel
theorem k90_23 : icode MCl 90 23 = some (.iload_n 3, 24, 0, 0, 0) := by decide +kernel
theorem k90_24 : icode MCl 90 24 = some (.isub, 25, 0, 0, 0) := by decide +kernel
theorem k90_25 : icode MCl 90 25 = some (.invokestatic 20, 28, 87, 498, 0) := by decide +kernel
theorem k90_28 : icode MCl 90 28 = some (.invokestatic 31, 31, 27, 507, 0) := by decide +kernel
theorem k90_31 : icode MCl 90 31 = some (.istore_n 2, 32, 0, 0, 0) := by decide +kernel
theorem k90_32 : icode MCl 90 32 = some (.iinc 3 1, 35, 0, 0, 1) := by decide +kernel
theorem k90_35 : icode MCl 90 35 = some (.goto (-26), 38, 9, 0, 0) := by decide +kernel
theorem k90_38 : icode MCl 90 38 = some (.iload_n 2, 39, 0, 0, 0) := by decide +kernel
theorem k90_39 : icode MCl 90 39 = some (.ireturn, 40, 0, 0, 0) := by decide +kernel
theorem k91_0 : icode MCl 91 0 = some (.iconst 0, 1, 0, 0, 0) := by decide +kernel
theorem k91_1 : icode MCl 91 1 = some (.istore_n 1, 2, 0, 0, 0) := by decide +kernel
theorem k91_2 : icode MCl 91 2 = some (.iload_n 0, 3, 0, 0, 0) := by decide +kernel
theorem k91_3 : icode MCl 91 3 = some (.invokestatic 14, 6, 86, 495, 0) := by decide +kernel
theorem k91_6 : icode MCl 91 6 = some (.iconst 1, 7, 0, 0, 1) := by decide +kernel
theorem k91_7 : icode MCl 91 7 = some (.isub, 8, 0, 0, 0) := by decide +kernel
theorem k91_8 : icode MCl 91 8 = some (.istore_n 2, 9, 0, 0, 0) := by decide +kernel
theorem k91_9 : icode MCl 91 9 = some (.iload_n 2, 10, 0, 0, 0) := by decide +kernel
theorem k91_10 : icode MCl 91 10 = some (.ifCond .lt 39, 13, 49, 0, 0) := by decide +kernel
theorem k91_13 : icode MCl 91 13 = some (.iload_n 0, 14, 0, 0, 0) := by decide +kernel
theorem k91_14 : icode MCl 91 14 = some (.iload_n 2, 15, 0, 0, 0) := by decide +kernel
theorem k91_15 : icode MCl 91 15 = some (.invokestatic 20, 18, 87, 498, 0) := by decide +kernel
theorem k91_18 : icode MCl 91 18 = some (.istore_n 3, 19, 0, 0, 0) := by decide +kernel
theorem k91_19 : icode MCl 91 19 = some (.iload_n 1, 20, 0, 0, 0) := by decide +kernel
theorem k91_20 : icode MCl 91 20 = some (.iload_n 3, 21, 0, 0, 0) := by decide +kernel
theorem k91_21 : icode MCl 91 21 = some (.iconst 1, 22, 0, 0, 1) := by decide +kernel
theorem k91_22 : icode MCl 91 22 = some (.if_icmp .ne 7, 25, 29, 0, 0) := by decide +kernel
theorem k91_25 : icode MCl 91 25 = some (.iconst 2, 26, 0, 0, 2) := by decide +kernel
theorem k91_26 : icode MCl 91 26 = some (.goto 13, 29, 39, 0, 0) := by decide +kernel
theorem k91_29 : icode MCl 91 29 = some (.iload_n 3, 30, 0, 0, 0) := by decide +kernel
theorem k91_30 : icode MCl 91 30 = some (.iconst 2, 31, 0, 0, 2) := by decide +kernel
theorem k91_31 : icode MCl 91 31 = some (.if_icmp .ne 7, 34, 38, 0, 0) := by decide +kernel
theorem k91_34 : icode MCl 91 34 = some (.iconst 1, 35, 0, 0, 1) := by decide +kernel
theorem k91_35 : icode MCl 91 35 = some (.goto 4, 38, 39, 0, 0) := by decide +kernel
theorem k91_38 : icode MCl 91 38 = some (.iload_n 3, 39, 0, 0, 0) := by decide +kernel
theorem k91_39 : icode MCl 91 39 = some (.invokestatic 31, 42, 27, 507, 0) := by decide +kernel
theorem k91_42 : icode MCl 91 42 = some (.istore_n 1, 43, 0, 0, 0) := by decide +kernel
theorem k91_43 : icode MCl 91 43 = some (.iinc 2 (-1), 46, 0, 0, (-1)) := by decide +kernel
theorem k91_46 : icode MCl 91 46 = some (.goto (-37), 49, 9, 0, 0) := by decide +kernel
theorem k91_49 : icode MCl 91 49 = some (.iload_n 1, 50, 0, 0, 0) := by decide +kernel
theorem k91_50 : icode MCl 91 50 = some (.ireturn, 51, 0, 0, 0) := by decide +kernel
theorem k92_0 : icode MCl 92 0 = some (.iload_n 0, 1, 0, 0, 0) := by decide +kernel
theorem k92_1 : icode MCl 92 1 = some (.tableswitch 76 1 4 #[31, 36, 55, 60], 32, 0, 0, 0) := by decide +kernel
theorem k92_32 : icode MCl 92 32 = some (.iload_n 1, 33, 0, 0, 0) := by decide +kernel
theorem k92_33 : icode MCl 92 33 = some (.invokestatic 28, 36, 90, 504, 0) := by decide +kernel
theorem k92_36 : icode MCl 92 36 = some (.ireturn, 37, 0, 0, 0) := by decide +kernel
theorem k92_37 : icode MCl 92 37 = some (.iload_n 1, 38, 0, 0, 0) := by decide +kernel
theorem k92_38 : icode MCl 92 38 = some (.invokestatic 14, 41, 86, 495, 0) := by decide +kernel
theorem k92_41 : icode MCl 92 41 = some (.bipush 8, 43, 0, 0, 8) := by decide +kernel
theorem k92_43 : icode MCl 92 43 = some (.if_icmp .ge 11, 46, 54, 0, 0) := by decide +kernel
theorem k92_46 : icode MCl 92 46 = some (.iload_n 1, 47, 0, 0, 0) := by decide +kernel
theorem k92_47 : icode MCl 92 47 = some (.iconst 2, 48, 0, 0, 2) := by decide +kernel
theorem k92_48 : icode MCl 92 48 = some (.invokestatic 31, 51, 27, 507, 0) := by decide +kernel
theorem k92_51 : icode MCl 92 51 = some (.goto 4, 54, 55, 0, 0) := by decide +kernel
theorem k92_54 : icode MCl 92 54 = some (.iload_n 1, 55, 0, 0, 0) := by decide +kernel
theorem k92_55 : icode MCl 92 55 = some (.ireturn, 56, 0, 0, 0) := by decide +kernel
theorem k92_56 : icode MCl 92 56 = some (.iload_n 1, 57, 0, 0, 0) := by decide +kernel
theorem k92_57 : icode MCl 92 57 = some (.invokestatic 34, 60, 91, 508, 0) := by decide +kernel
theorem k92_60 : icode MCl 92 60 = some (.ireturn, 61, 0, 0, 0) := by decide +kernel
theorem k92_61 : icode MCl 92 61 = some (.iload_n 1, 62, 0, 0, 0) := by decide +kernel
theorem k92_62 : icode MCl 92 62 = some (.ifCond .ne 7, 65, 69, 0, 0) := by decide +kernel
theorem k92_65 : icode MCl 92 65 = some (.iconst 0, 66, 0, 0, 0) := by decide +kernel
theorem k92_66 : icode MCl 92 66 = some (.goto 10, 69, 76, 0, 0) := by decide +kernel
theorem k92_69 : icode MCl 92 69 = some (.iload_n 1, 70, 0, 0, 0) := by decide +kernel
theorem k92_70 : icode MCl 92 70 = some (.iconst 4, 71, 0, 0, 4) := by decide +kernel
theorem k92_71 : icode MCl 92 71 = some (.idiv, 72, 0, 0, 0) := by decide +kernel
theorem k92_72 : icode MCl 92 72 = some (.iconst 3, 73, 0, 0, 3) := by decide +kernel
theorem k92_73 : icode MCl 92 73 = some (.invokestatic 31, 76, 27, 507, 0) := by decide +kernel
theorem k92_76 : icode MCl 92 76 = some (.ireturn, 77, 0, 0, 0) := by decide +kernel
theorem k92_77 : icode MCl 92 77 = some (.iload_n 1, 78, 0, 0, 0) := by decide +kernel
theorem k92_78 : icode MCl 92 78 = some (.ireturn, 79, 0, 0, 0) := by decide +kernel
theorem k93_0 : icode MCl 93 0 = some (.aload_n 0, 1, 0, 0, 0) := by decide +kernel
theorem k93_1 : icode MCl 93 1 = some (.getfield 28, 4, 702, 411, 1) := by decide +kernel
theorem k93_4 : icode MCl 93 4 = some (.iload_n 1, 5, 0, 0, 0) := by decide +kernel
theorem k93_5 : icode MCl 93 5 = some (.invokevirtual 95, 8, 29, 461, 0) := by decide +kernel
theorem k93_8 : icode MCl 93 8 = some (.ifCond .eq 10, 11, 18, 0, 0) := by decide +kernel
theorem k93_11 : icode MCl 93 11 = some (.iload_n 2, 12, 0, 0, 0) := by decide +kernel
theorem k93_12 : icode MCl 93 12 = some (.invokestatic 140, 15, 89, 487, 0) := by decide +kernel
theorem k93_15 : icode MCl 93 15 = some (.ifCond .ne 5, 18, 20, 0, 0) := by decide +kernel
theorem k93_18 : icode MCl 93 18 = some (.iconst (-1), 19, 0, 0, (-1)) := by decide +kernel
theorem k93_19 : icode MCl 93 19 = some (.ireturn, 20, 0, 0, 0) := by decide +kernel
theorem k93_20 : icode MCl 93 20 = some (.aload_n 0, 21, 0, 0, 0) := by decide +kernel
theorem k93_21 : icode MCl 93 21 = some (.getfield 28, 24, 702, 411, 1) := by decide +kernel
theorem k93_24 : icode MCl 93 24 = some (.iload_n 1, 25, 0, 0, 0) := by decide +kernel
theorem k93_25 : icode MCl 93 25 = some (.invokevirtual 98, 28, 41, 462, 0) := by decide +kernel
theorem k93_28 : icode MCl 93 28 = some (.iload_n 2, 29, 0, 0, 0) := by decide +kernel
theorem k93_29 : icode MCl 93 29 = some (.invokestatic 145, 32, 92, 501, 0) := by decide +kernel
theorem k93_32 : icode MCl 93 32 = some (.ireturn, 33, 0, 0, 0) := by decide +kernel
theorem k94_0 : icode MCl 94 0 = some (.iload_n 0, 1, 0, 0, 0) := by decide +kernel
theorem k94_1 : icode MCl 94 1 = some (.iconst 1, 2, 0, 0, 1) := by decide +kernel
theorem k94_2 : icode MCl 94 2 = some (.ldc 72, 4, 0, 928, 65535) := by decide +kernel
theorem k94_4 : icode MCl 94 4 = some (.invokestatic 73, 7, 59, 855, 0) := by decide +kernel
theorem k94_7 : icode MCl 94 7 = some (.istore_n 1, 8, 0, 0, 0) := by decide +kernel
theorem k94_8 : icode MCl 94 8 = some (.iload_n 0, 9, 0, 0, 0) := by decide +kernel
theorem k94_9 : icode MCl 94 9 = some (.istore_n 2, 10, 0, 0, 0) := by decide +kernel
theorem k94_10 : icode MCl 94 10 = some (.iload_n 2, 11, 0, 0, 0) := by decide +kernel
theorem k94_11 : icode MCl 94 11 = some (.ifCond .le 26, 14, 37, 0, 0) := by decide +kernel
theorem k94_14 : icode MCl 94 14 = some (.iload_n 1, 15, 0, 0, 0) := by decide +kernel
theorem k94_15 : icode MCl 94 15 = some (.ifCond .eq 22, 18, 37, 0, 0) := by decide +kernel
theorem k94_18 : icode MCl 94 18 = some (.iload_n 2, 19, 0, 0, 0) := by decide +kernel
theorem k94_19 : icode MCl 94 19 = some (.iconst 4, 20, 0, 0, 4) := by decide +kernel
theorem k94_20 : icode MCl 94 20 = some (.irem, 21, 0, 0, 0) := by decide +kernel
theorem k94_21 : icode MCl 94 21 = some (.ifCond .le 7, 24, 28, 0, 0) := by decide +kernel
theorem k94_24 : icode MCl 94 24 = some (.iconst 1, 25, 0, 0, 1) := by decide +kernel
theorem k94_25 : icode MCl 94 25 = some (.goto 4, 28, 29, 0, 0) := by decide +kernel
theorem k94_28 : icode MCl 94 28 = some (.iconst 0, 29, 0, 0, 0) := by decide +kernel
theorem k94_29 : icode MCl 94 29 = some (.istore_n 1, 30, 0, 0, 0) := by decide +kernel
theorem k94_30 : icode MCl 94 30 = some (.iload_n 2, 31, 0, 0, 0) := by decide +kernel
theorem k94_31 : icode MCl 94 31 = some (.iconst 4, 32, 0, 0, 4) := by decide +kernel
theorem k94_32 : icode MCl 94 32 = some (.idiv, 33, 0, 0, 0) := by decide +kernel
theorem k94_33 : icode MCl 94 33 = some (.istore_n 2, 34, 0, 0, 0) := by decide +kernel
theorem k94_34 : icode MCl 94 34 = some (.goto (-24), 37, 10, 0, 0) := by decide +kernel
theorem k94_37 : icode MCl 94 37 = some (.iload_n 1, 38, 0, 0, 0) := by decide +kernel
theorem k94_38 : icode MCl 94 38 = some (.ireturn, 39, 0, 0, 0) := by decide +kernel
theorem k95_0 : icode MCl 95 0 = some (.iconst 0, 1, 0, 0, 0) := by decide +kernel
theorem k95_1 : icode MCl 95 1 = some (.istore_n 1, 2, 0, 0, 0) := by decide +kernel
theorem k95_2 : icode MCl 95 2 = some (.iload_n 0, 3, 0, 0, 0) := by decide +kernel
theorem k95_3 : icode MCl 95 3 = some (.istore_n 2, 4, 0, 0, 0) := by decide +kernel
theorem k95_4 : icode MCl 95 4 = some (.iload_n 2, 5, 0, 0, 0) := by decide +kernel
theorem k95_5 : icode MCl 95 5 = some (.ifCond .le 13, 8, 18, 0, 0) := by decide +kernel
theorem k95_8 : icode MCl 95 8 = some (.iinc 1 1, 11, 0, 0, 1) := by decide +kernel
theorem k95_11 : icode MCl 95 11 = some (.iload_n 2, 12, 0, 0, 0) := by decide +kernel
theorem k95_12 : icode MCl 95 12 = some (.iconst 4, 13, 0, 0, 4) := by decide +kernel
theorem k95_13 : icode MCl 95 13 = some (.idiv, 14, 0, 0, 0) := by decide +kernel
theorem k95_14 : icode MCl 95 14 = some (.istore_n 2, 15, 0, 0, 0) := by decide +kernel
theorem k95_15 : icode MCl 95 15 = some (.goto (-11), 18, 4, 0, 0) := by decide +kernel
theorem k95_18 : icode MCl 95 18 = some (.iload_n 1, 19, 0, 0, 0) := by decide +kernel
theorem k95_19 : icode MCl 95 19 = some (.ireturn, 20, 0, 0, 0) := by decide +kernel
theorem k96_0 : icode MCl 96 0 = some (.iconst 1, 1, 0, 0, 1) := by decide +kernel
theorem k96_1 : icode MCl 96 1 = some (.istore_n 1, 2, 0, 0, 0) := by decide +kernel
theorem k96_2 : icode MCl 96 2 = some (.iconst 0, 3, 0, 0, 0) := by decide +kernel
theorem k96_3 : icode MCl 96 3 = some (.istore_n 2, 4, 0, 0, 0) := by decide +kernel
theorem k96_4 : icode MCl 96 4 = some (.iload_n 2, 5, 0, 0, 0) := by decide +kernel
theorem k96_5 : icode MCl 96 5 = some (.iload_n 0, 6, 0, 0, 0) := by decide +kernel
theorem k96_6 : icode MCl 96 6 = some (.if_icmp .ge 13, 9, 19, 0, 0) := by decide +kernel
theorem k96_9 : icode MCl 96 9 = some (.iload_n 1, 10, 0, 0, 0) := by decide +kernel
theorem k96_10 : icode MCl 96 10 = some (.iconst 4, 11, 0, 0, 4) := by decide +kernel
theorem k96_11 : icode MCl 96 11 = some (.imul, 12, 0, 0, 0) := by decide +kernel
theorem k96_12 : icode MCl 96 12 = some (.istore_n 1, 13, 0, 0, 0) := by decide +kernel
theorem k96_13 : icode MCl 96 13 = some (.iinc 2 1, 16, 0, 0, 1) := by decide +kernel
theorem k96_16 : icode MCl 96 16 = some (.goto (-12), 19, 4, 0, 0) := by decide +kernel
theorem k96_19 : icode MCl 96 19 = some (.iload_n 1, 20, 0, 0, 0) := by decide +kernel
theorem k96_20 : icode MCl 96 20 = some (.ireturn, 21, 0, 0, 0) := by decide +kernel
theorem k97_0 : icode MCl 97 0 = some (.iload_n 1, 1, 0, 0, 0) := by decide +kernel
theorem k97_1 : icode MCl 97 1 = some (.invokestatic 77, 4, 95, 932, 0) := by decide +kernel
theorem k97_4 : icode MCl 97 4 = some (.istore_n 2, 5, 0, 0, 0) := by decide +kernel
theorem k97_5 : icode MCl 97 5 = some (.iload_n 0, 6, 0, 0, 0) := by decide +kernel
theorem k97_6 : icode MCl 97 6 = some (.tableswitch 168 1 4 #[30, 79, 95, 152], 36, 0, 0, 0) := by decide +kernel
theorem k97_36 : icode MCl 97 36 = some (.iconst 0, 37, 0, 0, 0) := by decide +kernel
theorem k97_37 : icode MCl 97 37 = some (.istore_n 3, 38, 0, 0, 0) := by decide +kernel
theorem k97_38 : icode MCl 97 38 = some (.iconst 0, 39, 0, 0, 0) := by decide +kernel
theorem k97_39 : icode MCl 97 39 = some (.istore 4, 41, 0, 0, 0) := by decide +kernel
theorem k97_41 : icode MCl 97 41 = some (.iload 4, 43, 0, 0, 0) := by decide +kernel
theorem k97_43 : icode MCl 97 43 = some (.iload_n 2, 44, 0, 0, 0) := by decide +kernel
theorem k97_44 : icode MCl 97 44 = some (.if_icmp .ge 39, 47, 83, 0, 0) := by decide +kernel
theorem k97_47 : icode MCl 97 47 = some (.iload 4, 49, 0, 0, 0) := by decide +kernel
theorem k97_49 : icode MCl 97 49 = some (.iconst 3, 50, 0, 0, 3) := by decide +kernel
theorem k97_50 : icode MCl 97 50 = some (.irem, 51, 0, 0, 0) := by decide +kernel
theorem k97_51 : icode MCl 97 51 = some (.iconst 2, 52, 0, 0, 2) := by decide +kernel
theorem k97_52 : icode MCl 97 52 = some (.if_icmp .ne 7, 55, 59, 0, 0) := by decide +kernel
theorem k97_55 : icode MCl 97 55 = some (.iload_n 3, 56, 0, 0, 0) := by decide +kernel
theorem k97_56 : icode MCl 97 56 = some (.goto 20, 59, 76, 0, 0) := by decide +kernel
theorem k97_59 : icode MCl 97 59 = some (.iconst 4, 60, 0, 0, 4) := by decide +kernel
theorem k97_60 : icode MCl 97 60 = some (.iload_n 3, 61, 0, 0, 0) := by decide +kernel
theorem k97_61 : icode MCl 97 61 = some (.imul, 62, 0, 0, 0) := by decide +kernel
theorem k97_62 : icode MCl 97 62 = some (.iload_n 1, 63, 0, 0, 0) := by decide +kernel
theorem k97_63 : icode MCl 97 63 = some (.iload_n 2, 64, 0, 0, 0) := by decide +kernel
theorem k97_64 : icode MCl 97 64 = some (.iconst 1, 65, 0, 0, 1) := by decide +kernel
theorem k97_65 : icode MCl 97 65 = some (.isub, 66, 0, 0, 0) := by decide +kernel
theorem k97_66 : icode MCl 97 66 = some (.iload 4, 68, 0, 0, 0) := by decide +kernel
theorem k97_68 : icode MCl 97 68 = some (.isub, 69, 0, 0, 0) := by decide +kernel
theorem k97_69 : icode MCl 97 69 = some (.invokestatic 81, 72, 96, 935, 0) := by decide +kernel
theorem k97_72 : icode MCl 97 72 = some (.idiv, 73, 0, 0, 0) := by decide +kernel
theorem k97_73 : icode MCl 97 73 = some (.iconst 4, 74, 0, 0, 4) := by decide +kernel
theorem k97_74 : icode MCl 97 74 = some (.irem, 75, 0, 0, 0) := by decide +kernel
theorem k97_75 : icode MCl 97 75 = some (.iadd, 76, 0, 0, 0) := by decide +kernel
theorem k97_76 : icode MCl 97 76 = some (.istore_n 3, 77, 0, 0, 0) := by decide +kernel
theorem k97_77 : icode MCl 97 77 = some (.iinc 4 1, 80, 0, 0, 1) := by decide +kernel
theorem k97_80 : icode MCl 97 80 = some (.goto (-39), 83, 41, 0, 0) := by decide +kernel
theorem k97_83 : icode MCl 97 83 = some (.iload_n 3, 84, 0, 0, 0) := by decide +kernel
theorem k97_84 : icode MCl 97 84 = some (.ireturn, 85, 0, 0, 0) := by decide +kernel
theorem k97_85 : icode MCl 97 85 = some (.iload_n 2, 86, 0, 0, 0) := by decide +kernel
theorem k97_86 : icode MCl 97 86 = some (.bipush 8, 88, 0, 0, 8) := by decide +kernel
theorem k97_88 : icode MCl 97 88 = some (.if_icmp .ge 11, 91, 99, 0, 0) := by decide +kernel
theorem k97_91 : icode MCl 97 91 = some (.iconst 4, 92, 0, 0, 4) := by decide +kernel
theorem k97_92 : icode MCl 97 92 = some (.iload_n 1, 93, 0, 0, 0) := by decide +kernel
theorem k97_93 : icode MCl 97 93 = some (.imul, 94, 0, 0, 0) := by decide +kernel
theorem k97_94 : icode MCl 97 94 = some (.iconst 2, 95, 0, 0, 2) := by decide +kernel
theorem k97_95 : icode MCl 97 95 = some (.iadd, 96, 0, 0, 0) := by decide +kernel
theorem k97_96 : icode MCl 97 96 = some (.goto 4, 99, 100, 0, 0) := by decide +kernel
theorem k97_99 : icode MCl 97 99 = some (.iload_n 1, 100, 0, 0, 0) := by decide +kernel
theorem k97_100 : icode MCl 97 100 = some (.ireturn, 101, 0, 0, 0) := by decide +kernel
theorem k97_101 : icode MCl 97 101 = some (.iconst 0, 102, 0, 0, 0) := by decide +kernel
theorem k97_102 : icode MCl 97 102 = some (.istore 4, 104, 0, 0, 0) := by decide +kernel
theorem k97_104 : icode MCl 97 104 = some (.iconst 0, 105, 0, 0, 0) := by decide +kernel
theorem k97_105 : icode MCl 97 105 = some (.istore 5, 107, 0, 0, 0) := by decide +kernel
theorem k97_107 : icode MCl 97 107 = some (.iload 5, 109, 0, 0, 0) := by decide +kernel
theorem k97_109 : icode MCl 97 109 = some (.iload_n 2, 110, 0, 0, 0) := by decide +kernel
theorem k97_110 : icode MCl 97 110 = some (.if_icmp .ge 45, 113, 155, 0, 0) := by decide +kernel
theorem k97_113 : icode MCl 97 113 = some (.iload_n 1, 114, 0, 0, 0) := by decide +kernel
theorem k97_114 : icode MCl 97 114 = some (.iload_n 2, 115, 0, 0, 0) := by decide +kernel
theorem k97_115 : icode MCl 97 115 = some (.iconst 1, 116, 0, 0, 1) := by decide +kernel
theorem k97_116 : icode MCl 97 116 = some (.isub, 117, 0, 0, 0) := by decide +kernel
theorem k97_117 : icode MCl 97 117 = some (.iload 5, 119, 0, 0, 0) := by decide +kernel
theorem k97_119 : icode MCl 97 119 = some (.isub, 120, 0, 0, 0) := by decide +kernel
theorem k97_120 : icode MCl 97 120 = some (.invokestatic 81, 123, 96, 935, 0) := by decide +kernel
theorem k97_123 : icode MCl 97 123 = some (.idiv, 124, 0, 0, 0) := by decide +kernel
theorem k97_124 : icode MCl 97 124 = some (.iconst 4, 125, 0, 0, 4) := by decide +kernel
theorem k97_125 : icode MCl 97 125 = some (.irem, 126, 0, 0, 0) := by decide +kernel
theorem k97_126 : icode MCl 97 126 = some (.istore 6, 128, 0, 0, 0) := by decide +kernel
theorem k97_128 : icode MCl 97 128 = some (.iconst 4, 129, 0, 0, 4) := by decide +kernel
theorem k97_129 : icode MCl 97 129 = some (.iload 4, 131, 0, 0, 0) := by decide +kernel
theorem k97_131 : icode MCl 97 131 = some (.imul, 132, 0, 0, 0) := by decide +kernel
theorem k97_132 : icode MCl 97 132 = some (.iload 6, 134, 0, 0, 0) := by decide +kernel
theorem k97_134 : icode MCl 97 134 = some (.iconst 3, 135, 0, 0, 3) := by decide +kernel
theorem k97_135 : icode MCl 97 135 = some (.if_icmp .ne 7, 138, 142, 0, 0) := by decide +kernel
theorem k97_138 : icode MCl 97 138 = some (.iconst 3, 139, 0, 0, 3) := by decide +kernel
theorem k97_139 : icode MCl 97 139 = some (.goto 7, 142, 146, 0, 0) := by decide +kernel
theorem k97_142 : icode MCl 97 142 = some (.iconst 3, 143, 0, 0, 3) := by decide +kernel
theorem k97_143 : icode MCl 97 143 = some (.iload 6, 145, 0, 0, 0) := by decide +kernel
theorem k97_145 : icode MCl 97 145 = some (.isub, 146, 0, 0, 0) := by decide +kernel
theorem k97_146 : icode MCl 97 146 = some (.iadd, 147, 0, 0, 0) := by decide +kernel
theorem k97_147 : icode MCl 97 147 = some (.istore 4, 149, 0, 0, 0) := by decide +kernel
theorem k97_149 : icode MCl 97 149 = some (.iinc 5 1, 152, 0, 0, 1) := by decide +kernel
theorem k97_152 : icode MCl 97 152 = some (.goto (-45), 155, 107, 0, 0) := by decide +kernel
theorem k97_155 : icode MCl 97 155 = some (.iload 4, 157, 0, 0, 0) := by decide +kernel
theorem k97_157 : icode MCl 97 157 = some (.ireturn, 158, 0, 0, 0) := by decide +kernel
theorem k97_158 : icode MCl 97 158 = some (.iload_n 2, 159, 0, 0, 0) := by decide +kernel
theorem k97_159 : icode MCl 97 159 = some (.ifCond .ne 7, 162, 166, 0, 0) := by decide +kernel
theorem k97_162 : icode MCl 97 162 = some (.iconst 0, 163, 0, 0, 0) := by decide +kernel
theorem k97_163 : icode MCl 97 163 = some (.goto 10, 166, 173, 0, 0) := by decide +kernel
theorem k97_166 : icode MCl 97 166 = some (.iload_n 1, 167, 0, 0, 0) := by decide +kernel
theorem k97_167 : icode MCl 97 167 = some (.iload_n 1, 168, 0, 0, 0) := by decide +kernel
theorem k97_168 : icode MCl 97 168 = some (.iconst 4, 169, 0, 0, 4) := by decide +kernel
theorem k97_169 : icode MCl 97 169 = some (.irem, 170, 0, 0, 0) := by decide +kernel
theorem k97_170 : icode MCl 97 170 = some (.isub, 171, 0, 0, 0) := by decide +kernel
theorem k97_171 : icode MCl 97 171 = some (.iconst 3, 172, 0, 0, 3) := by decide +kernel
theorem k97_172 : icode MCl 97 172 = some (.iadd, 173, 0, 0, 0) := by decide +kernel
theorem k97_173 : icode MCl 97 173 = some (.ireturn, 174, 0, 0, 0) := by decide +kernel
theorem k97_174 : icode MCl 97 174 = some (.iload_n 1, 175, 0, 0, 0) := by decide +kernel
theorem k97_175 : icode MCl 97 175 = some (.ireturn, 176, 0, 0, 0) := by decide +kernel
theorem k98_0 : icode MCl 98 0 = some (.aload_n 0, 1, 0, 0, 0) := by decide +kernel
theorem k98_1 : icode MCl 98 1 = some (.iload_n 1, 2, 0, 0, 0) := by decide +kernel
theorem k98_2 : icode MCl 98 2 = some (.invokevirtual 139, 5, 78, 902, 0) := by decide +kernel
theorem k98_5 : icode MCl 98 5 = some (.ifCond .eq 27, 8, 32, 0, 0) := by decide +kernel
theorem k98_8 : icode MCl 98 8 = some (.iload_n 2, 9, 0, 0, 0) := by decide +kernel
theorem k98_9 : icode MCl 98 9 = some (.ifCond .eq 10, 12, 19, 0, 0) := by decide +kernel
theorem k98_12 : icode MCl 98 12 = some (.iload_n 2, 13, 0, 0, 0) := by decide +kernel
theorem k98_13 : icode MCl 98 13 = some (.invokestatic 149, 16, 94, 925, 0) := by decide +kernel
theorem k98_16 : icode MCl 98 16 = some (.ifCond .eq 16, 19, 32, 0, 0) := by decide +kernel
theorem k98_19 : icode MCl 98 19 = some (.aload_n 0, 20, 0, 0, 0) := by decide +kernel
theorem k98_20 : icode MCl 98 20 = some (.getfield 31, 23, 813, 788, 1) := by decide +kernel
theorem k98_23 : icode MCl 98 23 = some (.iload_n 1, 24, 0, 0, 0) := by decide +kernel
theorem k98_24 : icode MCl 98 24 = some (.iaload, 25, 0, 0, 0) := by decide +kernel
theorem k98_25 : icode MCl 98 25 = some (.iload_n 2, 26, 0, 0, 0) := by decide +kernel
theorem k98_26 : icode MCl 98 26 = some (.invokestatic 152, 29, 97, 929, 0) := by decide +kernel
theorem k98_29 : icode MCl 98 29 = some (.goto 4, 32, 33, 0, 0) := by decide +kernel
theorem k98_32 : icode MCl 98 32 = some (.iconst (-1), 33, 0, 0, (-1)) := by decide +kernel
theorem k98_33 : icode MCl 98 33 = some (.ireturn, 34, 0, 0, 0) := by decide +kernel
theorem k99_0 : icode MCl 99 0 = some (.aload_n 0, 1, 0, 0, 0) := by decide +kernel
theorem k99_1 : icode MCl 99 1 = some (.getfield 15, 4, 300, 191, 1) := by decide +kernel
theorem k99_4 : icode MCl 99 4 = some (.arraylength, 5, 0, 0, 0) := by decide +kernel
theorem k99_5 : icode MCl 99 5 = some (.ifCond .ne 4, 8, 9, 0, 0) := by decide +kernel
theorem k99_8 : icode MCl 99 8 = some (.return_, 9, 0, 0, 0) := by decide +kernel
theorem k99_9 : icode MCl 99 9 = some (.aload_n 0, 10, 0, 0, 0) := by decide +kernel
theorem k99_10 : icode MCl 99 10 = some (.getfield 15, 13, 300, 191, 1) := by decide +kernel
theorem k99_13 : icode MCl 99 13 = some (.iconst 0, 14, 0, 0, 0) := by decide +kernel
theorem k99_14 : icode MCl 99 14 = some (.aaload, 15, 0, 0, 0) := by decide +kernel
theorem k99_15 : icode MCl 99 15 = some (.astore_n 1, 16, 0, 0, 0) := by decide +kernel
theorem k99_16 : icode MCl 99 16 = some (.iconst 1, 17, 0, 0, 1) := by decide +kernel
theorem k99_17 : icode MCl 99 17 = some (.istore_n 2, 18, 0, 0, 0) := by decide +kernel
theorem k99_18 : icode MCl 99 18 = some (.iload_n 2, 19, 0, 0, 0) := by decide +kernel
theorem k99_19 : icode MCl 99 19 = some (.aload_n 0, 20, 0, 0, 0) := by decide +kernel
theorem k99_20 : icode MCl 99 20 = some (.getfield 15, 23, 300, 191, 1) := by decide +kernel
theorem k99_23 : icode MCl 99 23 = some (.arraylength, 24, 0, 0, 0) := by decide +kernel
theorem k99_24 : icode MCl 99 24 = some (.if_icmp .ge 23, 27, 47, 0, 0) := by decide +kernel
theorem k99_27 : icode MCl 99 27 = some (.aload_n 0, 28, 0, 0, 0) := by decide +kernel
theorem k99_28 : icode MCl 99 28 = some (.getfield 15, 31, 300, 191, 1) := by decide +kernel
theorem k99_31 : icode MCl 99 31 = some (.iload_n 2, 32, 0, 0, 0) := by decide +kernel
theorem k99_32 : icode MCl 99 32 = some (.iconst 1, 33, 0, 0, 1) := by decide +kernel
theorem k99_33 : icode MCl 99 33 = some (.isub, 34, 0, 0, 0) := by decide +kernel
theorem k99_34 : icode MCl 99 34 = some (.aload_n 0, 35, 0, 0, 0) := by decide +kernel
theorem k99_35 : icode MCl 99 35 = some (.getfield 15, 38, 300, 191, 1) := by decide +kernel
theorem k99_38 : icode MCl 99 38 = some (.iload_n 2, 39, 0, 0, 0) := by decide +kernel
theorem k99_39 : icode MCl 99 39 = some (.aaload, 40, 0, 0, 0) := by decide +kernel
theorem k99_40 : icode MCl 99 40 = some (.aastore, 41, 0, 0, 0) := by decide +kernel
theorem k99_41 : icode MCl 99 41 = some (.iinc 2 1, 44, 0, 0, 1) := by decide +kernel
theorem k99_44 : icode MCl 99 44 = some (.goto (-26), 47, 18, 0, 0) := by decide +kernel
theorem k99_47 : icode MCl 99 47 = some (.aload_n 0, 48, 0, 0, 0) := by decide +kernel
theorem k99_48 : icode MCl 99 48 = some (.getfield 15, 51, 300, 191, 1) := by decide +kernel
theorem k99_51 : icode MCl 99 51 = some (.aload_n 0, 52, 0, 0, 0) := by decide +kernel
theorem k99_52 : icode MCl 99 52 = some (.getfield 15, 55, 300, 191, 1) := by decide +kernel
theorem k99_55 : icode MCl 99 55 = some (.arraylength, 56, 0, 0, 0) := by decide +kernel
theorem k99_56 : icode MCl 99 56 = some (.iconst 1, 57, 0, 0, 1) := by decide +kernel
theorem k99_57 : icode MCl 99 57 = some (.isub, 58, 0, 0, 0) := by decide +kernel
theorem k99_58 : icode MCl 99 58 = some (.aload_n 1, 59, 0, 0, 0) := by decide +kernel
theorem k99_59 : icode MCl 99 59 = some (.aastore, 60, 0, 0, 0) := by decide +kernel
theorem k99_60 : icode MCl 99 60 = some (.aload_n 0, 61, 0, 0, 0) := by decide +kernel
theorem k99_61 : icode MCl 99 61 = some (.aload_n 0, 62, 0, 0, 0) := by decide +kernel
theorem k99_62 : icode MCl 99 62 = some (.getfield 15, 65, 300, 191, 1) := by decide +kernel
theorem k99_65 : icode MCl 99 65 = some (.arraylength, 66, 0, 0, 0) := by decide +kernel
theorem k99_66 : icode MCl 99 66 = some (.iconst 1, 67, 0, 0, 1) := by decide +kernel
theorem k99_67 : icode MCl 99 67 = some (.isub, 68, 0, 0, 0) := by decide +kernel
theorem k99_68 : icode MCl 99 68 = some (.putfield 22, 71, 301, 192, 0) := by decide +kernel
theorem k99_71 : icode MCl 99 71 = some (.return_, 72, 0, 0, 0) := by decide +kernel
theorem k100_0 : icode MCl 100 0 = some (.aload_n 0, 1, 0, 0, 0) := by decide +kernel
theorem k100_1 : icode MCl 100 1 = some (.getfield 22, 4, 301, 192, 0) := by decide +kernel
theorem k100_4 : icode MCl 100 4 = some (.aload_n 0, 5, 0, 0, 0) := by decide +kernel
theorem k100_5 : icode MCl 100 5 = some (.getfield 15, 8, 300, 191, 1) := by decide +kernel
theorem k100_8 : icode MCl 100 8 = some (.arraylength, 9, 0, 0, 0) := by decide +kernel
theorem k100_9 : icode MCl 100 9 = some (.if_icmp .lt 7, 12, 16, 0, 0) := by decide +kernel
theorem k100_12 : icode MCl 100 12 = some (.aload_n 0, 13, 0, 0, 0) := by decide +kernel
theorem k100_13 : icode MCl 100 13 = some (.invokevirtual 26, 16, 99, 519, 0) := by decide +kernel
theorem k100_16 : icode MCl 100 16 = some (.aload_n 0, 17, 0, 0, 0) := by decide +kernel
theorem k100_17 : icode MCl 100 17 = some (.getfield 22, 20, 301, 192, 0) := by decide +kernel
theorem k100_20 : icode MCl 100 20 = some (.ifCond .lt 27, 23, 47, 0, 0) := by decide +kernel
theorem k100_23 : icode MCl 100 23 = some (.aload_n 0, 24, 0, 0, 0) := by decide +kernel
theorem k100_24 : icode MCl 100 24 = some (.getfield 22, 27, 301, 192, 0) := by decide +kernel
theorem k100_27 : icode MCl 100 27 = some (.aload_n 0, 28, 0, 0, 0) := by decide +kernel
theorem k100_28 : icode MCl 100 28 = some (.getfield 15, 31, 300, 191, 1) := by decide +kernel
theorem k100_31 : icode MCl 100 31 = some (.arraylength, 32, 0, 0, 0) := by decide +kernel
theorem k100_32 : icode MCl 100 32 = some (.if_icmp .ge 15, 35, 47, 0, 0) := by decide +kernel
theorem k100_35 : icode MCl 100 35 = some (.aload_n 0, 36, 0, 0, 0) := by decide +kernel
theorem k100_36 : icode MCl 100 36 = some (.getfield 15, 39, 300, 191, 1) := by decide +kernel
theorem k100_39 : icode MCl 100 39 = some (.aload_n 0, 40, 0, 0, 0) := by decide +kernel
theorem k100_40 : icode MCl 100 40 = some (.getfield 22, 43, 301, 192, 0) := by decide +kernel
theorem k100_43 : icode MCl 100 43 = some (.aaload, 44, 0, 0, 0) := by decide +kernel
theorem k100_44 : icode MCl 100 44 = some (.goto 4, 47, 48, 0, 0) := by decide +kernel
theorem k100_47 : icode MCl 100 47 = some (.aconst_null, 48, 0, 0, 0) := by decide +kernel
theorem k100_48 : icode MCl 100 48 = some (.astore_n 2, 49, 0, 0, 0) := by decide +kernel
theorem k100_49 : icode MCl 100 49 = some (.aload_n 2, 50, 0, 0, 0) := by decide +kernel
theorem k100_50 : icode MCl 100 50 = some (.ifnonnull 4, 53, 54, 0, 0) := by decide +kernel
theorem k100_53 : icode MCl 100 53 = some (.return_, 54, 0, 0, 0) := by decide +kernel
theorem k100_54 : icode MCl 100 54 = some (.aload_n 2, 55, 0, 0, 0) := by decide +kernel
theorem k100_55 : icode MCl 100 55 = some (.aload_n 1, 56, 0, 0, 0) := by decide +kernel
theorem k100_56 : icode MCl 100 56 = some (.invokevirtual 29, 59, 46, 523, 0) := by decide +kernel
theorem k100_59 : icode MCl 100 59 = some (.aload_n 0, 60, 0, 0, 0) := by decide +kernel
theorem k100_60 : icode MCl 100 60 = some (.dup, 61, 0, 0, 0) := by decide +kernel
theorem k100_61 : icode MCl 100 61 = some (.getfield 22, 64, 301, 192, 0) := by decide +kernel
theorem k100_64 : icode MCl 100 64 = some (.iconst 1, 65, 0, 0, 1) := by decide +kernel
theorem k100_65 : icode MCl 100 65 = some (.iadd, 66, 0, 0, 0) := by decide +kernel
theorem k100_66 : icode MCl 100 66 = some (.putfield 22, 69, 301, 192, 0) := by decide +kernel
theorem k100_69 : icode MCl 100 69 = some (.return_, 70, 0, 0, 0) := by decide +kernel
theorem k101_0 : icode MCl 101 0 = some (.aload_n 0, 1, 0, 0, 0) := by decide +kernel
theorem k101_1 : icode MCl 101 1 = some (.iload_n 1, 2, 0, 0, 0) := by decide +kernel
theorem k101_2 : icode MCl 101 2 = some (.invokevirtual 29, 5, 43, 384, 0) := by decide +kernel
theorem k101_5 : icode MCl 101 5 = some (.iload_n 1, 6, 0, 0, 0) := by decide +kernel
theorem k101_6 : icode MCl 101 6 = some (.if_icmp .ne 7, 9, 13, 0, 0) := by decide +kernel
theorem k101_9 : icode MCl 101 9 = some (.iconst 1, 10, 0, 0, 1) := by decide +kernel
theorem k101_10 : icode MCl 101 10 = some (.goto 4, 13, 14, 0, 0) := by decide +kernel
theorem k101_13 : icode MCl 101 13 = some (.iconst 0, 14, 0, 0, 0) := by decide +kernel
theorem k101_14 : icode MCl 101 14 = some (.ireturn, 15, 0, 0, 0) := by decide +kernel
theorem k102_0 : icode MCl 102 0 = some (.aload_n 0, 1, 0, 0, 0) := by decide +kernel
theorem k102_1 : icode MCl 102 1 = some (.aload_n 1, 2, 0, 0, 0) := by decide +kernel
theorem k102_2 : icode MCl 102 2 = some (.aload_n 0, 3, 0, 0, 0) := by decide +kernel
theorem k102_3 : icode MCl 102 3 = some (.getfield 18, 6, 102, 121, 0) := by decide +kernel
theorem k102_6 : icode MCl 102 6 = some (.invokevirtual 44, 9, 41, 538, 0) := by decide +kernel
theorem k102_9 : icode MCl 102 9 = some (.aload_n 0, 10, 0, 0, 0) := by decide +kernel
theorem k102_10 : icode MCl 102 10 = some (.getfield 21, 13, 103, 124, 0) := by decide +kernel
theorem k102_13 : icode MCl 102 13 = some (.invokestatic 47, 16, 92, 539, 0) := by decide +kernel
theorem k102_16 : icode MCl 102 16 = some (.putfield 21, 19, 103, 124, 0) := by decide +kernel
theorem k102_19 : icode MCl 102 19 = some (.aload_n 1, 20, 0, 0, 0) := by decide +kernel
theorem k102_20 : icode MCl 102 20 = some (.aload_n 0, 21, 0, 0, 0) := by decide +kernel
theorem k102_21 : icode MCl 102 21 = some (.getfield 18, 24, 102, 121, 0) := by decide +kernel
theorem k102_24 : icode MCl 102 24 = some (.invokevirtual 53, 27, 101, 540, 0) := by decide +kernel
theorem k102_27 : icode MCl 102 27 = some (.ifCond .eq 16, 30, 43, 0, 0) := by decide +kernel
theorem k102_30 : icode MCl 102 30 = some (.aload_n 0, 31, 0, 0, 0) := by decide +kernel
theorem k102_31 : icode MCl 102 31 = some (.iconst 2, 32, 0, 0, 2) := by decide +kernel
theorem k102_32 : icode MCl 102 32 = some (.putfield 15, 35, 101, 118, 0) := by decide +kernel
theorem k102_35 : icode MCl 102 35 = some (.aload_n 0, 36, 0, 0, 0) := by decide +kernel
theorem k102_36 : icode MCl 102 36 = some (.iload_n 2, 37, 0, 0, 0) := by decide +kernel
theorem k102_37 : icode MCl 102 37 = some (.putfield 27, 40, 105, 129, 0) := by decide +kernel
theorem k102_40 : icode MCl 102 40 = some (.goto 15, 43, 55, 0, 0) := by decide +kernel
theorem k102_43 : icode MCl 102 43 = some (.aload_n 0, 44, 0, 0, 0) := by decide +kernel
theorem k102_44 : icode MCl 102 44 = some (.aload_n 1, 45, 0, 0, 0) := by decide +kernel
theorem k102_45 : icode MCl 102 45 = some (.aload_n 0, 46, 0, 0, 0) := by decide +kernel
theorem k102_46 : icode MCl 102 46 = some (.getfield 18, 49, 102, 121, 0) := by decide +kernel
theorem k102_49 : icode MCl 102 49 = some (.invokevirtual 57, 52, 43, 544, 0) := by decide +kernel
theorem k102_52 : icode MCl 102 52 = some (.putfield 18, 55, 102, 121, 0) := by decide +kernel
theorem k102_55 : icode MCl 102 55 = some (.return_, 56, 0, 0, 0) := by decide +kernel
theorem k103_0 : icode MCl 103 0 = some (.aload_n 0, 1, 0, 0, 0) := by decide +kernel
theorem k103_1 : icode MCl 103 1 = some (.getfield 15, 4, 101, 118, 0) := by decide +kernel
theorem k103_4 : icode MCl 103 4 = some (.ifCond .ne 16, 7, 20, 0, 0) := by decide +kernel
theorem k103_7 : icode MCl 103 7 = some (.aload_n 0, 8, 0, 0, 0) := by decide +kernel
theorem k103_8 : icode MCl 103 8 = some (.getfield 9, 11, 100, 116, 0) := by decide +kernel
theorem k103_11 : icode MCl 103 11 = some (.iload_n 2, 12, 0, 0, 0) := by decide +kernel
theorem k103_12 : icode MCl 103 12 = some (.if_icmp .ne 8, 15, 20, 0, 0) := by decide +kernel
theorem k103_15 : icode MCl 103 15 = some (.aload_n 0, 16, 0, 0, 0) := by decide +kernel
theorem k103_16 : icode MCl 103 16 = some (.iconst 1, 17, 0, 0, 1) := by decide +kernel
theorem k103_17 : icode MCl 103 17 = some (.putfield 15, 20, 101, 118, 0) := by decide +kernel
theorem k103_20 : icode MCl 103 20 = some (.aload_n 0, 21, 0, 0, 0) := by decide +kernel
theorem k103_21 : icode MCl 103 21 = some (.getfield 15, 24, 101, 118, 0) := by decide +kernel
theorem k103_24 : icode MCl 103 24 = some (.iconst 1, 25, 0, 0, 1) := by decide +kernel
theorem k103_25 : icode MCl 103 25 = some (.if_icmp .eq 4, 28, 29, 0, 0) := by decide +kernel
theorem k103_28 : icode MCl 103 28 = some (.return_, 29, 0, 0, 0) := by decide +kernel
theorem k103_29 : icode MCl 103 29 = some (.aload_n 0, 30, 0, 0, 0) := by decide +kernel
theorem k103_30 : icode MCl 103 30 = some (.getfield 24, 33, 104, 127, 0) := by decide +kernel
theorem k103_33 : icode MCl 103 33 = some (.ifCond .ne 26, 36, 59, 0, 0) := by decide +kernel
theorem k103_36 : icode MCl 103 36 = some (.iload_n 3, 37, 0, 0, 0) := by decide +kernel
theorem k103_37 : icode MCl 103 37 = some (.aload_n 0, 38, 0, 0, 0) := by decide +kernel
theorem k103_38 : icode MCl 103 38 = some (.getfield 18, 41, 102, 121, 0) := by decide +kernel
theorem k103_41 : icode MCl 103 41 = some (.invokestatic 30, 44, 34, 532, 1) := by decide +kernel
theorem k103_44 : icode MCl 103 44 = some (.ifCond .ne 15, 47, 59, 0, 0) := by decide +kernel
theorem k103_47 : icode MCl 103 47 = some (.aload_n 0, 48, 0, 0, 0) := by decide +kernel
theorem k103_48 : icode MCl 103 48 = some (.aload_n 1, 49, 0, 0, 0) := by decide +kernel
theorem k103_49 : icode MCl 103 49 = some (.aload_n 0, 50, 0, 0, 0) := by decide +kernel
theorem k103_50 : icode MCl 103 50 = some (.getfield 18, 53, 102, 121, 0) := by decide +kernel
theorem k103_53 : icode MCl 103 53 = some (.invokevirtual 34, 56, 42, 533, 0) := by decide +kernel
theorem k103_56 : icode MCl 103 56 = some (.putfield 24, 59, 104, 127, 0) := by decide +kernel
theorem k103_59 : icode MCl 103 59 = some (.aload_n 0, 60, 0, 0, 0) := by decide +kernel
theorem k103_60 : icode MCl 103 60 = some (.getfield 24, 63, 104, 127, 0) := by decide +kernel
theorem k103_63 : icode MCl 103 63 = some (.ifCond .ne 4, 66, 67, 0, 0) := by decide +kernel
theorem k103_66 : icode MCl 103 66 = some (.return_, 67, 0, 0, 0) := by decide +kernel
theorem k103_67 : icode MCl 103 67 = some (.aload_n 0, 68, 0, 0, 0) := by decide +kernel
theorem k103_68 : icode MCl 103 68 = some (.dup, 69, 0, 0, 0) := by decide +kernel
theorem k103_69 : icode MCl 103 69 = some (.getfield 24, 72, 104, 127, 0) := by decide +kernel
theorem k103_72 : icode MCl 103 72 = some (.iconst 1, 73, 0, 0, 1) := by decide +kernel
theorem k103_73 : icode MCl 103 73 = some (.isub, 74, 0, 0, 0) := by decide +kernel
theorem k103_74 : icode MCl 103 74 = some (.putfield 24, 77, 104, 127, 0) := by decide +kernel
theorem k103_77 : icode MCl 103 77 = some (.aload_n 0, 78, 0, 0, 0) := by decide +kernel
theorem k103_78 : icode MCl 103 78 = some (.getfield 24, 81, 104, 127, 0) := by decide +kernel
theorem k103_81 : icode MCl 103 81 = some (.ifCond .ne 9, 84, 90, 0, 0) := by decide +kernel
theorem k103_84 : icode MCl 103 84 = some (.aload_n 0, 85, 0, 0, 0) := by decide +kernel
theorem k103_85 : icode MCl 103 85 = some (.aload_n 1, 86, 0, 0, 0) := by decide +kernel
theorem k103_86 : icode MCl 103 86 = some (.iload_n 2, 87, 0, 0, 0) := by decide +kernel
theorem k103_87 : icode MCl 103 87 = some (.invokevirtual 40, 90, 102, 534, 0) := by decide +kernel
theorem k103_90 : icode MCl 103 90 = some (.return_, 91, 0, 0, 0) := by decide +kernel
theorem k104_0 : icode MCl 104 0 = some (.iconst 0, 1, 0, 0, 0) := by decide +kernel
theorem k104_1 : icode MCl 104 1 = some (.istore_n 2, 2, 0, 0, 0) := by decide +kernel
theorem k104_2 : icode MCl 104 2 = some (.iload_n 2, 3, 0, 0, 0) := by decide +kernel
theorem k104_3 : icode MCl 104 3 = some (.aload_n 0, 4, 0, 0, 0) := by decide +kernel
theorem k104_4 : icode MCl 104 4 = some (.getfield 22, 7, 202, 146, 0) := by decide +kernel
theorem k104_7 : icode MCl 104 7 = some (.if_icmp .ge 26, 10, 33, 0, 0) := by decide +kernel
theorem k104_10 : icode MCl 104 10 = some (.aload_n 0, 11, 0, 0, 0) := by decide +kernel
theorem k104_11 : icode MCl 104 11 = some (.iload_n 2, 12, 0, 0, 0) := by decide +kernel
theorem k104_12 : icode MCl 104 12 = some (.invokevirtual 32, 15, 30, 341, 0) := by decide +kernel
theorem k104_15 : icode MCl 104 15 = some (.aload_n 1, 16, 0, 0, 0) := by decide +kernel
theorem k104_16 : icode MCl 104 16 = some (.aload_n 0, 17, 0, 0, 0) := by decide +kernel
theorem k104_17 : icode MCl 104 17 = some (.getfield 26, 20, 203, 147, 0) := by decide +kernel
theorem k104_20 : icode MCl 104 20 = some (.aload_n 0, 21, 0, 0, 0) := by decide +kernel
theorem k104_21 : icode MCl 104 21 = some (.getfield 29, 24, 204, 148, 0) := by decide +kernel
theorem k104_24 : icode MCl 104 24 = some (.invokevirtual 54, 27, 103, 528, 0) := by decide +kernel
theorem k104_27 : icode MCl 104 27 = some (.iinc 2 1, 30, 0, 0, 1) := by decide +kernel
theorem k104_30 : icode MCl 104 30 = some (.goto (-28), 33, 2, 0, 0) := by decide +kernel
theorem k104_33 : icode MCl 104 33 = some (.aload_n 0, 34, 0, 0, 0) := by decide +kernel
theorem k104_34 : icode MCl 104 34 = some (.dup, 35, 0, 0, 0) := by decide +kernel
theorem k104_35 : icode MCl 104 35 = some (.getfield 26, 38, 203, 147, 0) := by decide +kernel
theorem k104_38 : icode MCl 104 38 = some (.iconst 1, 39, 0, 0, 1) := by decide +kernel
theorem k104_39 : icode MCl 104 39 = some (.iadd, 40, 0, 0, 0) := by decide +kernel
theorem k104_40 : icode MCl 104 40 = some (.putfield 26, 43, 203, 147, 0) := by decide +kernel
theorem k104_43 : icode MCl 104 43 = some (.return_, 44, 0, 0, 0) := by decide +kernel
theorem k105_0 : icode MCl 105 0 = some (.iconst 0, 1, 0, 0, 0) := by decide +kernel
theorem k105_1 : icode MCl 105 1 = some (.istore_n 2, 2, 0, 0, 0) := by decide +kernel
theorem k105_2 : icode MCl 105 2 = some (.iconst 0, 3, 0, 0, 0) := by decide +kernel
theorem k105_3 : icode MCl 105 3 = some (.istore_n 3, 4, 0, 0, 0) := by decide +kernel
theorem k105_4 : icode MCl 105 4 = some (.iload_n 3, 5, 0, 0, 0) := by decide +kernel
theorem k105_5 : icode MCl 105 5 = some (.aload_n 0, 6, 0, 0, 0) := by decide +kernel
theorem k105_6 : icode MCl 105 6 = some (.getfield 22, 9, 202, 146, 0) := by decide +kernel
theorem k105_9 : icode MCl 105 9 = some (.if_icmp .ge 29, 12, 38, 0, 0) := by decide +kernel
theorem k105_12 : icode MCl 105 12 = some (.iload_n 2, 13, 0, 0, 0) := by decide +kernel
theorem k105_13 : icode MCl 105 13 = some (.aload_n 0, 14, 0, 0, 0) := by decide +kernel
theorem k105_14 : icode MCl 105 14 = some (.iload_n 3, 15, 0, 0, 0) := by decide +kernel
theorem k105_15 : icode MCl 105 15 = some (.invokevirtual 32, 18, 30, 341, 0) := by decide +kernel
theorem k105_18 : icode MCl 105 18 = some (.getfield 62, 21, 101, 120, 0) := by decide +kernel
theorem k105_21 : icode MCl 105 21 = some (.iload_n 1, 22, 0, 0, 0) := by decide +kernel
theorem k105_22 : icode MCl 105 22 = some (.if_icmp .ne 7, 25, 29, 0, 0) := by decide +kernel
theorem k105_25 : icode MCl 105 25 = some (.iconst 1, 26, 0, 0, 1) := by decide +kernel
theorem k105_26 : icode MCl 105 26 = some (.goto 4, 29, 30, 0, 0) := by decide +kernel
theorem k105_29 : icode MCl 105 29 = some (.iconst 0, 30, 0, 0, 0) := by decide +kernel
theorem k105_30 : icode MCl 105 30 = some (.iadd, 31, 0, 0, 0) := by decide +kernel
theorem k105_31 : icode MCl 105 31 = some (.istore_n 2, 32, 0, 0, 0) := by decide +kernel
theorem k105_32 : icode MCl 105 32 = some (.iinc 3 1, 35, 0, 0, 1) := by decide +kernel
theorem k105_35 : icode MCl 105 35 = some (.goto (-31), 38, 4, 0, 0) := by decide +kernel
theorem k105_38 : icode MCl 105 38 = some (.iload_n 2, 39, 0, 0, 0) := by decide +kernel
theorem k105_39 : icode MCl 105 39 = some (.ireturn, 40, 0, 0, 0) := by decide +kernel
theorem k106_0 : icode MCl 106 0 = some (.iload_n 1, 1, 0, 0, 0) := by decide +kernel
theorem k106_1 : icode MCl 106 1 = some (.iconst 1, 2, 0, 0, 1) := by decide +kernel
theorem k106_2 : icode MCl 106 2 = some (.bipush 60, 4, 0, 0, 60) := by decide +kernel
theorem k106_4 : icode MCl 106 4 = some (.invokestatic 86, 7, 22, 439, 0) := by decide +kernel
theorem k106_7 : icode MCl 106 7 = some (.ifCond .ne 5, 10, 12, 0, 0) := by decide +kernel
theorem k106_10 : icode MCl 106 10 = some (.iconst (-1), 11, 0, 0, (-1)) := by decide +kernel
theorem k106_11 : icode MCl 106 11 = some (.ireturn, 12, 0, 0, 0) := by decide +kernel
theorem k106_12 : icode MCl 106 12 = some (.aload_n 0, 13, 0, 0, 0) := by decide +kernel
theorem k106_13 : icode MCl 106 13 = some (.getfield 47, 16, 705, 414, 1) := by decide +kernel
theorem k106_16 : icode MCl 106 16 = some (.aload_n 0, 17, 0, 0, 0) := by decide +kernel
theorem k106_17 : icode MCl 106 17 = some (.getfield 35, 20, 703, 412, 1) := by decide +kernel
theorem k106_20 : icode MCl 106 20 = some (.invokevirtual 149, 23, 100, 515, 0) := by decide +kernel
theorem k106_23 : icode MCl 106 23 = some (.iconst 0, 24, 0, 0, 0) := by decide +kernel
theorem k106_24 : icode MCl 106 24 = some (.istore_n 2, 25, 0, 0, 0) := by decide +kernel
theorem k106_25 : icode MCl 106 25 = some (.iload_n 2, 26, 0, 0, 0) := by decide +kernel
theorem k106_26 : icode MCl 106 26 = some (.iload_n 1, 27, 0, 0, 0) := by decide +kernel
theorem k106_27 : icode MCl 106 27 = some (.if_icmp .ge 20, 30, 47, 0, 0) := by decide +kernel
theorem k106_30 : icode MCl 106 30 = some (.aload_n 0, 31, 0, 0, 0) := by decide +kernel
theorem k106_31 : icode MCl 106 31 = some (.getfield 35, 34, 703, 412, 1) := by decide +kernel
theorem k106_34 : icode MCl 106 34 = some (.aload_n 0, 35, 0, 0, 0) := by decide +kernel
theorem k106_35 : icode MCl 106 35 = some (.getfield 28, 38, 702, 411, 1) := by decide +kernel
theorem k106_38 : icode MCl 106 38 = some (.invokevirtual 153, 41, 104, 524, 0) := by decide +kernel
theorem k106_41 : icode MCl 106 41 = some (.iinc 2 1, 44, 0, 0, 1) := by decide +kernel
theorem k106_44 : icode MCl 106 44 = some (.goto (-19), 47, 25, 0, 0) := by decide +kernel
theorem k106_47 : icode MCl 106 47 = some (.aload_n 0, 48, 0, 0, 0) := by decide +kernel
theorem k106_48 : icode MCl 106 48 = some (.getfield 35, 51, 703, 412, 1) := by decide +kernel
theorem k106_51 : icode MCl 106 51 = some (.iconst 2, 52, 0, 0, 2) := by decide +kernel
theorem k106_52 : icode MCl 106 52 = some (.invokevirtual 157, 55, 105, 545, 0) := by decide +kernel
theorem k106_55 : icode MCl 106 55 = some (.ireturn, 56, 0, 0, 0) := by decide +kernel
theorem k107_0 : icode MCl 107 0 = some (.iconst 0, 1, 0, 0, 0) := by decide +kernel
theorem k107_1 : icode MCl 107 1 = some (.istore_n 1, 2, 0, 0, 0) := by decide +kernel
theorem k107_2 : icode MCl 107 2 = some (.iload_n 1, 3, 0, 0, 0) := by decide +kernel
theorem k107_3 : icode MCl 107 3 = some (.bipush 39, 5, 0, 0, 39) := by decide +kernel
theorem k107_5 : icode MCl 107 5 = some (.if_icmp .ge 29, 8, 34, 0, 0) := by decide +kernel
theorem k107_8 : icode MCl 107 8 = some (.aload_n 0, 9, 0, 0, 0) := by decide +kernel
theorem k107_9 : icode MCl 107 9 = some (.getfield 46, 12, 820, 795, 1) := by decide +kernel
theorem k107_12 : icode MCl 107 12 = some (.bipush 39, 14, 0, 0, 39) := by decide +kernel
theorem k107_14 : icode MCl 107 14 = some (.aload_n 0, 15, 0, 0, 0) := by decide +kernel
theorem k107_15 : icode MCl 107 15 = some (.getfield 164, 18, 819, 794, 0) := by decide +kernel
theorem k107_18 : icode MCl 107 18 = some (.imul, 19, 0, 0, 0) := by decide +kernel
theorem k107_19 : icode MCl 107 19 = some (.iload_n 1, 20, 0, 0, 0) := by decide +kernel
theorem k107_20 : icode MCl 107 20 = some (.iadd, 21, 0, 0, 0) := by decide +kernel
theorem k107_21 : icode MCl 107 21 = some (.aload_n 0, 22, 0, 0, 0) := by decide +kernel
theorem k107_22 : icode MCl 107 22 = some (.getfield 40, 25, 816, 791, 1) := by decide +kernel
theorem k107_25 : icode MCl 107 25 = some (.iload_n 1, 26, 0, 0, 0) := by decide +kernel
theorem k107_26 : icode MCl 107 26 = some (.iaload, 27, 0, 0, 0) := by decide +kernel
theorem k107_27 : icode MCl 107 27 = some (.iastore, 28, 0, 0, 0) := by decide +kernel
theorem k107_28 : icode MCl 107 28 = some (.iinc 1 1, 31, 0, 0, 1) := by decide +kernel
theorem k107_31 : icode MCl 107 31 = some (.goto (-29), 34, 2, 0, 0) := by decide +kernel
theorem k107_34 : icode MCl 107 34 = some (.aload_n 0, 35, 0, 0, 0) := by decide +kernel
theorem k107_35 : icode MCl 107 35 = some (.aload_n 0, 36, 0, 0, 0) := by decide +kernel
theorem k107_36 : icode MCl 107 36 = some (.getfield 164, 39, 819, 794, 0) := by decide +kernel
theorem k107_39 : icode MCl 107 39 = some (.iconst 1, 40, 0, 0, 1) := by decide +kernel
theorem k107_40 : icode MCl 107 40 = some (.iadd, 41, 0, 0, 0) := by decide +kernel
theorem k107_41 : icode MCl 107 41 = some (.bipush 8, 43, 0, 0, 8) := by decide +kernel
theorem k107_43 : icode MCl 107 43 = some (.irem, 44, 0, 0, 0) := by decide +kernel
theorem k107_44 : icode MCl 107 44 = some (.putfield 164, 47, 819, 794, 0) := by decide +kernel
theorem k107_47 : icode MCl 107 47 = some (.aload_n 0, 48, 0, 0, 0) := by decide +kernel
theorem k107_48 : icode MCl 107 48 = some (.dup, 49, 0, 0, 0) := by decide +kernel
theorem k107_49 : icode MCl 107 49 = some (.getfield 126, 52, 818, 793, 0) := by decide +kernel
theorem k107_52 : icode MCl 107 52 = some (.aload_n 0, 53, 0, 0, 0) := by decide +kernel
theorem k107_53 : icode MCl 107 53 = some (.getfield 126, 56, 818, 793, 0) := by decide +kernel
theorem k107_56 : icode MCl 107 56 = some (.bipush 8, 58, 0, 0, 8) := by decide +kernel
theorem k107_58 : icode MCl 107 58 = some (.if_icmp .ge 7, 61, 65, 0, 0) := by decide +kernel
theorem k107_61 : icode MCl 107 61 = some (.iconst 1, 62, 0, 0, 1) := by decide +kernel
theorem k107_62 : icode MCl 107 62 = some (.goto 4, 65, 66, 0, 0) := by decide +kernel
theorem k107_65 : icode MCl 107 65 = some (.iconst 0, 66, 0, 0, 0) := by decide +kernel
theorem k107_66 : icode MCl 107 66 = some (.iadd, 67, 0, 0, 0) := by decide +kernel
theorem k107_67 : icode MCl 107 67 = some (.putfield 126, 70, 818, 793, 0) := by decide +kernel
theorem k107_70 : icode MCl 107 70 = some (.return_, 71, 0, 0, 0) := by decide +kernel
theorem k108_0 : icode MCl 108 0 = some (.iload_n 0, 1, 0, 0, 0) := by decide +kernel
theorem k108_1 : icode MCl 108 1 = some (.iload_n 1, 2, 0, 0, 0) := by decide +kernel
theorem k108_2 : icode MCl 108 2 = some (.ishr, 3, 0, 0, 0) := by decide +kernel
theorem k108_3 : icode MCl 108 3 = some (.iconst 1, 4, 0, 0, 1) := by decide +kernel
theorem k108_4 : icode MCl 108 4 = some (.iand, 5, 0, 0, 0) := by decide +kernel
theorem k108_5 : icode MCl 108 5 = some (.iconst 1, 6, 0, 0, 1) := by decide +kernel
theorem k108_6 : icode MCl 108 6 = some (.if_icmp .ne 7, 9, 13, 0, 0) := by decide +kernel
theorem k108_9 : icode MCl 108 9 = some (.iconst 1, 10, 0, 0, 1) := by decide +kernel
theorem k108_10 : icode MCl 108 10 = some (.goto 4, 13, 14, 0, 0) := by decide +kernel
theorem k108_13 : icode MCl 108 13 = some (.iconst 0, 14, 0, 0, 0) := by decide +kernel
theorem k108_14 : icode MCl 108 14 = some (.ireturn, 15, 0, 0, 0) := by decide +kernel
theorem k109_0 : icode MCl 109 0 = some (.iconst 3, 1, 0, 0, 3) := by decide +kernel
theorem k109_1 : icode MCl 109 1 = some (.bipush 6, 3, 0, 0, 6) := by decide +kernel
theorem k109_3 : icode MCl 109 3 = some (.iload_n 2, 4, 0, 0, 0) := by decide +kernel
theorem k109_4 : icode MCl 109 4 = some (.imul, 5, 0, 0, 0) := by decide +kernel
theorem k109_5 : icode MCl 109 5 = some (.iadd, 6, 0, 0, 0) := by decide +kernel
theorem k109_6 : icode MCl 109 6 = some (.istore_n 3, 7, 0, 0, 0) := by decide +kernel
theorem k109_7 : icode MCl 109 7 = some (.aload_n 1, 8, 0, 0, 0) := by decide +kernel
theorem k109_8 : icode MCl 109 8 = some (.iload_n 3, 9, 0, 0, 0) := by decide +kernel
theorem k109_9 : icode MCl 109 9 = some (.iconst 1, 10, 0, 0, 1) := by decide +kernel
theorem k109_10 : icode MCl 109 10 = some (.iadd, 11, 0, 0, 0) := by decide +kernel
theorem k109_11 : icode MCl 109 11 = some (.iaload, 12, 0, 0, 0) := by decide +kernel
theorem k109_12 : icode MCl 109 12 = some (.ifCond .ne 20, 15, 32, 0, 0) := by decide +kernel
theorem k109_15 : icode MCl 109 15 = some (.aload_n 1, 16, 0, 0, 0) := by decide +kernel
theorem k109_16 : icode MCl 109 16 = some (.iload_n 3, 17, 0, 0, 0) := by decide +kernel
theorem k109_17 : icode MCl 109 17 = some (.iconst 0, 18, 0, 0, 0) := by decide +kernel
theorem k109_18 : icode MCl 109 18 = some (.iadd, 19, 0, 0, 0) := by decide +kernel
theorem k109_19 : icode MCl 109 19 = some (.iaload, 20, 0, 0, 0) := by decide +kernel
theorem k109_20 : icode MCl 109 20 = some (.aload_n 1, 21, 0, 0, 0) := by decide +kernel
theorem k109_21 : icode MCl 109 21 = some (.iconst 0, 22, 0, 0, 0) := by decide +kernel
theorem k109_22 : icode MCl 109 22 = some (.iaload, 23, 0, 0, 0) := by decide +kernel
theorem k109_23 : icode MCl 109 23 = some (.if_icmp .ne 9, 26, 32, 0, 0) := by decide +kernel
theorem k109_26 : icode MCl 109 26 = some (.aload_n 1, 27, 0, 0, 0) := by decide +kernel
theorem k109_27 : icode MCl 109 27 = some (.iload_n 3, 28, 0, 0, 0) := by decide +kernel
theorem k109_28 : icode MCl 109 28 = some (.iconst 1, 29, 0, 0, 1) := by decide +kernel
theorem k109_29 : icode MCl 109 29 = some (.iadd, 30, 0, 0, 0) := by decide +kernel
theorem k109_30 : icode MCl 109 30 = some (.iconst 1, 31, 0, 0, 1) := by decide +kernel
theorem k109_31 : icode MCl 109 31 = some (.iastore, 32, 0, 0, 0) := by decide +kernel
theorem k109_32 : icode MCl 109 32 = some (.aload_n 1, 33, 0, 0, 0) := by decide +kernel
theorem k109_33 : icode MCl 109 33 = some (.iload_n 3, 34, 0, 0, 0) := by decide +kernel
theorem k109_34 : icode MCl 109 34 = some (.iconst 2, 35, 0, 0, 2) := by decide +kernel
theorem k109_35 : icode MCl 109 35 = some (.iadd, 36, 0, 0, 0) := by decide +kernel
theorem k109_36 : icode MCl 109 36 = some (.iaload, 37, 0, 0, 0) := by decide +kernel
theorem k109_37 : icode MCl 109 37 = some (.istore 4, 39, 0, 0, 0) := by decide +kernel
theorem k109_39 : icode MCl 109 39 = some (.aload_n 1, 40, 0, 0, 0) := by decide +kernel
theorem k109_40 : icode MCl 109 40 = some (.iload_n 3, 41, 0, 0, 0) := by decide +kernel
theorem k109_41 : icode MCl 109 41 = some (.iconst 1, 42, 0, 0, 1) := by decide +kernel
theorem k109_42 : icode MCl 109 42 = some (.iadd, 43, 0, 0, 0) := by decide +kernel
theorem k109_43 : icode MCl 109 43 = some (.iaload, 44, 0, 0, 0) := by decide +kernel
theorem k109_44 : icode MCl 109 44 = some (.iconst 1, 45, 0, 0, 1) := by decide +kernel
theorem k109_45 : icode MCl 109 45 = some (.if_icmp .ne 34, 48, 79, 0, 0) := by decide +kernel
theorem k109_48 : icode MCl 109 48 = some (.aload_n 1, 49, 0, 0, 0) := by decide +kernel
theorem k109_49 : icode MCl 109 49 = some (.iload_n 3, 50, 0, 0, 0) := by decide +kernel
theorem k109_50 : icode MCl 109 50 = some (.iconst 4, 51, 0, 0, 4) := by decide +kernel
theorem k109_51 : icode MCl 109 51 = some (.iadd, 52, 0, 0, 0) := by decide +kernel
theorem k109_52 : icode MCl 109 52 = some (.iaload, 53, 0, 0, 0) := by decide +kernel
theorem k109_53 : icode MCl 109 53 = some (.ifCond .ne 26, 56, 79, 0, 0) := by decide +kernel
theorem k109_56 : icode MCl 109 56 = some (.aload_n 1, 57, 0, 0, 0) := by decide +kernel
theorem k109_57 : icode MCl 109 57 = some (.iconst 1, 58, 0, 0, 1) := by decide +kernel
theorem k109_58 : icode MCl 109 58 = some (.iaload, 59, 0, 0, 0) := by decide +kernel
theorem k109_59 : icode MCl 109 59 = some (.iload 4, 61, 0, 0, 0) := by decide +kernel
theorem k109_61 : icode MCl 109 61 = some (.invokestatic 156, 64, 108, 954, 0) := by decide +kernel
theorem k109_64 : icode MCl 109 64 = some (.ifCond .ne 15, 67, 79, 0, 0) := by decide +kernel
theorem k109_67 : icode MCl 109 67 = some (.aload_n 1, 68, 0, 0, 0) := by decide +kernel
theorem k109_68 : icode MCl 109 68 = some (.iload_n 3, 69, 0, 0, 0) := by decide +kernel
theorem k109_69 : icode MCl 109 69 = some (.iconst 4, 70, 0, 0, 4) := by decide +kernel
theorem k109_70 : icode MCl 109 70 = some (.iadd, 71, 0, 0, 0) := by decide +kernel
theorem k109_71 : icode MCl 109 71 = some (.aload_n 0, 72, 0, 0, 0) := by decide +kernel
theorem k109_72 : icode MCl 109 72 = some (.getfield 34, 75, 814, 789, 1) := by decide +kernel
theorem k109_75 : icode MCl 109 75 = some (.iload 4, 77, 0, 0, 0) := by decide +kernel
theorem k109_77 : icode MCl 109 77 = some (.iaload, 78, 0, 0, 0) := by decide +kernel
theorem k109_78 : icode MCl 109 78 = some (.iastore, 79, 0, 0, 0) := by decide +kernel
theorem k109_79 : icode MCl 109 79 = some (.aload_n 1, 80, 0, 0, 0) := by decide +kernel
theorem k109_80 : icode MCl 109 80 = some (.iload_n 3, 81, 0, 0, 0) := by decide +kernel
theorem k109_81 : icode MCl 109 81 = some (.iconst 1, 82, 0, 0, 1) := by decide +kernel
theorem k109_82 : icode MCl 109 82 = some (.iadd, 83, 0, 0, 0) := by decide +kernel
theorem k109_83 : icode MCl 109 83 = some (.iaload, 84, 0, 0, 0) := by decide +kernel
theorem k109_84 : icode MCl 109 84 = some (.iconst 1, 85, 0, 0, 1) := by decide +kernel
theorem k109_85 : icode MCl 109 85 = some (.if_icmp .ne 107, 88, 192, 0, 0) := by decide +kernel
theorem k109_88 : icode MCl 109 88 = some (.aload_n 1, 89, 0, 0, 0) := by decide +kernel
theorem k109_89 : icode MCl 109 89 = some (.iload_n 3, 90, 0, 0, 0) := by decide +kernel
theorem k109_90 : icode MCl 109 90 = some (.iconst 4, 91, 0, 0, 4) := by decide +kernel
theorem k109_91 : icode MCl 109 91 = some (.iadd, 92, 0, 0, 0) := by decide +kernel
theorem k109_92 : icode MCl 109 92 = some (.iaload, 93, 0, 0, 0) := by decide +kernel
theorem k109_93 : icode MCl 109 93 = some (.ifCond .le 99, 96, 192, 0, 0) := by decide +kernel
theorem k109_96 : icode MCl 109 96 = some (.aload_n 1, 97, 0, 0, 0) := by decide +kernel
theorem k109_97 : icode MCl 109 97 = some (.iload_n 3, 98, 0, 0, 0) := by decide +kernel
theorem k109_98 : icode MCl 109 98 = some (.iconst 4, 99, 0, 0, 4) := by decide +kernel
theorem k109_99 : icode MCl 109 99 = some (.iadd, 100, 0, 0, 0) := by decide +kernel
theorem k109_100 : icode MCl 109 100 = some (.dup2, 101, 0, 0, 0) := by decide +kernel
theorem k109_101 : icode MCl 109 101 = some (.iaload, 102, 0, 0, 0) := by decide +kernel
theorem k109_102 : icode MCl 109 102 = some (.iconst 1, 103, 0, 0, 1) := by decide +kernel
theorem k109_103 : icode MCl 109 103 = some (.isub, 104, 0, 0, 0) := by decide +kernel
theorem k109_104 : icode MCl 109 104 = some (.iastore, 105, 0, 0, 0) := by decide +kernel
theorem k109_105 : icode MCl 109 105 = some (.aload_n 1, 106, 0, 0, 0) := by decide +kernel
theorem k109_106 : icode MCl 109 106 = some (.iload_n 3, 107, 0, 0, 0) := by decide +kernel
theorem k109_107 : icode MCl 109 107 = some (.iconst 4, 108, 0, 0, 4) := by decide +kernel
theorem k109_108 : icode MCl 109 108 = some (.iadd, 109, 0, 0, 0) := by decide +kernel
theorem k109_109 : icode MCl 109 109 = some (.iaload, 110, 0, 0, 0) := by decide +kernel
theorem k109_110 : icode MCl 109 110 = some (.ifCond .ne 82, 113, 192, 0, 0) := by decide +kernel
theorem k109_113 : icode MCl 109 113 = some (.aload_n 1, 114, 0, 0, 0) := by decide +kernel
theorem k109_114 : icode MCl 109 114 = some (.iload_n 3, 115, 0, 0, 0) := by decide +kernel
theorem k109_115 : icode MCl 109 115 = some (.iconst 3, 116, 0, 0, 3) := by decide +kernel
theorem k109_116 : icode MCl 109 116 = some (.iadd, 117, 0, 0, 0) := by decide +kernel
theorem k109_117 : icode MCl 109 117 = some (.aload_n 0, 118, 0, 0, 0) := by decide +kernel
theorem k109_118 : icode MCl 109 118 = some (.getfield 31, 121, 813, 788, 1) := by decide +kernel
theorem k109_121 : icode MCl 109 121 = some (.iload 4, 123, 0, 0, 0) := by decide +kernel
theorem k109_123 : icode MCl 109 123 = some (.iaload, 124, 0, 0, 0) := by decide +kernel
theorem k109_124 : icode MCl 109 124 = some (.aload_n 1, 125, 0, 0, 0) := by decide +kernel
theorem k109_125 : icode MCl 109 125 = some (.iload_n 3, 126, 0, 0, 0) := by decide +kernel
theorem k109_126 : icode MCl 109 126 = some (.iconst 3, 127, 0, 0, 3) := by decide +kernel
theorem k109_127 : icode MCl 109 127 = some (.iadd, 128, 0, 0, 0) := by decide +kernel
theorem k109_128 : icode MCl 109 128 = some (.iaload, 129, 0, 0, 0) := by decide +kernel
theorem k109_129 : icode MCl 109 129 = some (.invokestatic 152, 132, 97, 929, 0) := by decide +kernel
theorem k109_132 : icode MCl 109 132 = some (.iastore, 133, 0, 0, 0) := by decide +kernel
theorem k109_133 : icode MCl 109 133 = some (.aload_n 1, 134, 0, 0, 0) := by decide +kernel
theorem k109_134 : icode MCl 109 134 = some (.iload_n 3, 135, 0, 0, 0) := by decide +kernel
theorem k109_135 : icode MCl 109 135 = some (.iconst 1, 136, 0, 0, 1) := by decide +kernel
theorem k109_136 : icode MCl 109 136 = some (.iadd, 137, 0, 0, 0) := by decide +kernel
theorem k109_137 : icode MCl 109 137 = some (.aload_n 0, 138, 0, 0, 0) := by decide +kernel
theorem k109_138 : icode MCl 109 138 = some (.getfield 37, 141, 815, 790, 1) := by decide +kernel
theorem k109_141 : icode MCl 109 141 = some (.iload 4, 143, 0, 0, 0) := by decide +kernel
theorem k109_143 : icode MCl 109 143 = some (.iaload, 144, 0, 0, 0) := by decide +kernel
theorem k109_144 : icode MCl 109 144 = some (.iload 4, 146, 0, 0, 0) := by decide +kernel
theorem k109_146 : icode MCl 109 146 = some (.if_icmp .ne 7, 149, 153, 0, 0) := by decide +kernel
theorem k109_149 : icode MCl 109 149 = some (.iconst 2, 150, 0, 0, 2) := by decide +kernel
theorem k109_150 : icode MCl 109 150 = some (.goto 4, 153, 154, 0, 0) := by decide +kernel
theorem k109_153 : icode MCl 109 153 = some (.iconst 1, 154, 0, 0, 1) := by decide +kernel
theorem k109_154 : icode MCl 109 154 = some (.iastore, 155, 0, 0, 0) := by decide +kernel
theorem k109_155 : icode MCl 109 155 = some (.aload_n 1, 156, 0, 0, 0) := by decide +kernel
theorem k109_156 : icode MCl 109 156 = some (.iload_n 3, 157, 0, 0, 0) := by decide +kernel
theorem k109_157 : icode MCl 109 157 = some (.iconst 2, 158, 0, 0, 2) := by decide +kernel
theorem k109_158 : icode MCl 109 158 = some (.iadd, 159, 0, 0, 0) := by decide +kernel
theorem k109_159 : icode MCl 109 159 = some (.aload_n 0, 160, 0, 0, 0) := by decide +kernel
theorem k109_160 : icode MCl 109 160 = some (.getfield 37, 163, 815, 790, 1) := by decide +kernel
theorem k109_163 : icode MCl 109 163 = some (.iload 4, 165, 0, 0, 0) := by decide +kernel
theorem k109_165 : icode MCl 109 165 = some (.iaload, 166, 0, 0, 0) := by decide +kernel
theorem k109_166 : icode MCl 109 166 = some (.iastore, 167, 0, 0, 0) := by decide +kernel
theorem k109_167 : icode MCl 109 167 = some (.aload_n 1, 168, 0, 0, 0) := by decide +kernel
theorem k109_168 : icode MCl 109 168 = some (.iload_n 3, 169, 0, 0, 0) := by decide +kernel
theorem k109_169 : icode MCl 109 169 = some (.iconst 5, 170, 0, 0, 5) := by decide +kernel
theorem k109_170 : icode MCl 109 170 = some (.iadd, 171, 0, 0, 0) := by decide +kernel
theorem k109_171 : icode MCl 109 171 = some (.aload_n 0, 172, 0, 0, 0) := by decide +kernel
theorem k109_172 : icode MCl 109 172 = some (.getfield 37, 175, 815, 790, 1) := by decide +kernel
theorem k109_175 : icode MCl 109 175 = some (.iload 4, 177, 0, 0, 0) := by decide +kernel
theorem k109_177 : icode MCl 109 177 = some (.iaload, 178, 0, 0, 0) := by decide +kernel
theorem k109_178 : icode MCl 109 178 = some (.iload 4, 180, 0, 0, 0) := by decide +kernel
theorem k109_180 : icode MCl 109 180 = some (.if_icmp .ne 9, 183, 189, 0, 0) := by decide +kernel
theorem k109_183 : icode MCl 109 183 = some (.aload_n 1, 184, 0, 0, 0) := by decide +kernel
theorem k109_184 : icode MCl 109 184 = some (.iconst 0, 185, 0, 0, 0) := by decide +kernel
theorem k109_185 : icode MCl 109 185 = some (.iaload, 186, 0, 0, 0) := by decide +kernel
theorem k109_186 : icode MCl 109 186 = some (.goto 5, 189, 191, 0, 0) := by decide +kernel
theorem k109_189 : icode MCl 109 189 = some (.bipush (-4), 191, 0, 0, (-4)) := by decide +kernel
theorem k109_191 : icode MCl 109 191 = some (.iastore, 192, 0, 0, 0) := by decide +kernel
theorem k109_192 : icode MCl 109 192 = some (.return_, 193, 0, 0, 0) := by decide +kernel
theorem k110_0 : icode MCl 110 0 = some (.iconst 0, 1, 0, 0, 0) := by decide +kernel
theorem k110_1 : icode MCl 110 1 = some (.istore_n 2, 2, 0, 0, 0) := by decide +kernel
theorem k110_2 : icode MCl 110 2 = some (.iload_n 2, 3, 0, 0, 0) := by decide +kernel
theorem k110_3 : icode MCl 110 3 = some (.aload_n 1, 4, 0, 0, 0) := by decide +kernel
theorem k110_4 : icode MCl 110 4 = some (.iconst 2, 5, 0, 0, 2) := by decide +kernel
theorem k110_5 : icode MCl 110 5 = some (.iaload, 6, 0, 0, 0) := by decide +kernel
theorem k110_6 : icode MCl 110 6 = some (.if_icmp .ge 15, 9, 21, 0, 0) := by decide +kernel
theorem k110_9 : icode MCl 110 9 = some (.aload_n 0, 10, 0, 0, 0) := by decide +kernel
theorem k110_10 : icode MCl 110 10 = some (.aload_n 1, 11, 0, 0, 0) := by decide +kernel
theorem k110_11 : icode MCl 110 11 = some (.iload_n 2, 12, 0, 0, 0) := by decide +kernel
theorem k110_12 : icode MCl 110 12 = some (.invokevirtual 160, 15, 109, 950, 0) := by decide +kernel
theorem k110_15 : icode MCl 110 15 = some (.iinc 2 1, 18, 0, 0, 1) := by decide +kernel
theorem k110_18 : icode MCl 110 18 = some (.goto (-16), 21, 2, 0, 0) := by decide +kernel
theorem k110_21 : icode MCl 110 21 = some (.aload_n 1, 22, 0, 0, 0) := by decide +kernel
theorem k110_22 : icode MCl 110 22 = some (.iconst 0, 23, 0, 0, 0) := by decide +kernel
theorem k110_23 : icode MCl 110 23 = some (.dup2, 24, 0, 0, 0) := by decide +kernel
theorem k110_24 : icode MCl 110 24 = some (.iaload, 25, 0, 0, 0) := by decide +kernel
theorem k110_25 : icode MCl 110 25 = some (.iconst 1, 26, 0, 0, 1) := by decide +kernel
theorem k110_26 : icode MCl 110 26 = some (.iadd, 27, 0, 0, 0) := by decide +kernel
theorem k110_27 : icode MCl 110 27 = some (.iastore, 28, 0, 0, 0) := by decide +kernel
theorem k110_28 : icode MCl 110 28 = some (.return_, 29, 0, 0, 0) := by decide +kernel
theorem k111_0 : icode MCl 111 0 = some (.iconst 0, 1, 0, 0, 0) := by decide +kernel
theorem k111_1 : icode MCl 111 1 = some (.istore_n 1, 2, 0, 0, 0) := by decide +kernel
theorem k111_2 : icode MCl 111 2 = some (.iconst 0, 3, 0, 0, 0) := by decide +kernel
theorem k111_3 : icode MCl 111 3 = some (.istore_n 2, 4, 0, 0, 0) := by decide +kernel
theorem k111_4 : icode MCl 111 4 = some (.iload_n 2, 5, 0, 0, 0) := by decide +kernel
theorem k111_5 : icode MCl 111 5 = some (.aload_n 0, 6, 0, 0, 0) := by decide +kernel
theorem k111_6 : icode MCl 111 6 = some (.iconst 2, 7, 0, 0, 2) := by decide +kernel
theorem k111_7 : icode MCl 111 7 = some (.iaload, 8, 0, 0, 0) := by decide +kernel
theorem k111_8 : icode MCl 111 8 = some (.if_icmp .ge 27, 11, 35, 0, 0) := by decide +kernel
theorem k111_11 : icode MCl 111 11 = some (.iload_n 1, 12, 0, 0, 0) := by decide +kernel
theorem k111_12 : icode MCl 111 12 = some (.aload_n 0, 13, 0, 0, 0) := by decide +kernel
theorem k111_13 : icode MCl 111 13 = some (.iload_n 2, 14, 0, 0, 0) := by decide +kernel
theorem k111_14 : icode MCl 111 14 = some (.iconst 1, 15, 0, 0, 1) := by decide +kernel
theorem k111_15 : icode MCl 111 15 = some (.invokestatic 135, 18, 79, 910, 0) := by decide +kernel
theorem k111_18 : icode MCl 111 18 = some (.iconst 2, 19, 0, 0, 2) := by decide +kernel
theorem k111_19 : icode MCl 111 19 = some (.if_icmp .ne 7, 22, 26, 0, 0) := by decide +kernel
theorem k111_22 : icode MCl 111 22 = some (.iconst 1, 23, 0, 0, 1) := by decide +kernel
theorem k111_23 : icode MCl 111 23 = some (.goto 4, 26, 27, 0, 0) := by decide +kernel
theorem k111_26 : icode MCl 111 26 = some (.iconst 0, 27, 0, 0, 0) := by decide +kernel
theorem k111_27 : icode MCl 111 27 = some (.iadd, 28, 0, 0, 0) := by decide +kernel
theorem k111_28 : icode MCl 111 28 = some (.istore_n 1, 29, 0, 0, 0) := by decide +kernel
theorem k111_29 : icode MCl 111 29 = some (.iinc 2 1, 32, 0, 0, 1) := by decide +kernel
theorem k111_32 : icode MCl 111 32 = some (.goto (-28), 35, 4, 0, 0) := by decide +kernel
theorem k111_35 : icode MCl 111 35 = some (.iload_n 1, 36, 0, 0, 0) := by decide +kernel
theorem k111_36 : icode MCl 111 36 = some (.ireturn, 37, 0, 0, 0) := by decide +kernel
theorem k112_0 : icode MCl 112 0 = some (.iload_n 1, 1, 0, 0, 0) := by decide +kernel
theorem k112_1 : icode MCl 112 1 = some (.iconst 1, 2, 0, 0, 1) := by decide +kernel
theorem k112_2 : icode MCl 112 2 = some (.bipush 60, 4, 0, 0, 60) := by decide +kernel
theorem k112_4 : icode MCl 112 4 = some (.invokestatic 73, 7, 59, 855, 0) := by decide +kernel
theorem k112_7 : icode MCl 112 7 = some (.ifCond .ne 5, 10, 12, 0, 0) := by decide +kernel
theorem k112_10 : icode MCl 112 10 = some (.iconst (-1), 11, 0, 0, (-1)) := by decide +kernel
theorem k112_11 : icode MCl 112 11 = some (.ireturn, 12, 0, 0, 0) := by decide +kernel
theorem k112_12 : icode MCl 112 12 = some (.aload_n 0, 13, 0, 0, 0) := by decide +kernel
theorem k112_13 : icode MCl 112 13 = some (.invokevirtual 167, 16, 107, 942, 0) := by decide +kernel
theorem k112_16 : icode MCl 112 16 = some (.iconst 0, 17, 0, 0, 0) := by decide +kernel
theorem k112_17 : icode MCl 112 17 = some (.istore_n 2, 18, 0, 0, 0) := by decide +kernel
theorem k112_18 : icode MCl 112 18 = some (.iload_n 2, 19, 0, 0, 0) := by decide +kernel
theorem k112_19 : icode MCl 112 19 = some (.iload_n 1, 20, 0, 0, 0) := by decide +kernel
theorem k112_20 : icode MCl 112 20 = some (.if_icmp .ge 17, 23, 37, 0, 0) := by decide +kernel
theorem k112_23 : icode MCl 112 23 = some (.aload_n 0, 24, 0, 0, 0) := by decide +kernel
theorem k112_24 : icode MCl 112 24 = some (.aload_n 0, 25, 0, 0, 0) := by decide +kernel
theorem k112_25 : icode MCl 112 25 = some (.getfield 40, 28, 816, 791, 1) := by decide +kernel
theorem k112_28 : icode MCl 112 28 = some (.invokevirtual 170, 31, 110, 946, 0) := by decide +kernel
theorem k112_31 : icode MCl 112 31 = some (.iinc 2 1, 34, 0, 0, 1) := by decide +kernel
theorem k112_34 : icode MCl 112 34 = some (.goto (-16), 37, 18, 0, 0) := by decide +kernel
theorem k112_37 : icode MCl 112 37 = some (.aload_n 0, 38, 0, 0, 0) := by decide +kernel
theorem k112_38 : icode MCl 112 38 = some (.getfield 40, 41, 816, 791, 1) := by decide +kernel
theorem k112_41 : icode MCl 112 41 = some (.invokestatic 174, 44, 111, 957, 0) := by decide +kernel
theorem k112_44 : icode MCl 112 44 = some (.ireturn, 45, 0, 0, 0) := by decide +kernel
theorem k113_0 : icode MCl 113 0 = some (.aload_n 0, 1, 0, 0, 0) := by decide +kernel
theorem k113_1 : icode MCl 113 1 = some (.getfield 28, 4, 702, 411, 1) := by decide +kernel
theorem k113_4 : icode MCl 113 4 = some (.iload_n 1, 5, 0, 0, 0) := by decide +kernel
theorem k113_5 : icode MCl 113 5 = some (.invokevirtual 95, 8, 29, 461, 0) := by decide +kernel
theorem k113_8 : icode MCl 113 8 = some (.ifCond .ne 5, 11, 13, 0, 0) := by decide +kernel
theorem k113_11 : icode MCl 113 11 = some (.iconst (-1), 12, 0, 0, (-1)) := by decide +kernel
theorem k113_12 : icode MCl 113 12 = some (.ireturn, 13, 0, 0, 0) := by decide +kernel
theorem k113_13 : icode MCl 113 13 = some (.aload_n 0, 14, 0, 0, 0) := by decide +kernel
theorem k113_14 : icode MCl 113 14 = some (.getfield 47, 17, 705, 414, 1) := by decide +kernel
theorem k113_17 : icode MCl 113 17 = some (.aload_n 0, 18, 0, 0, 0) := by decide +kernel
theorem k113_18 : icode MCl 113 18 = some (.getfield 35, 21, 703, 412, 1) := by decide +kernel
theorem k113_21 : icode MCl 113 21 = some (.invokevirtual 149, 24, 100, 515, 0) := by decide +kernel
theorem k113_24 : icode MCl 113 24 = some (.aload_n 0, 25, 0, 0, 0) := by decide +kernel
theorem k113_25 : icode MCl 113 25 = some (.getfield 35, 28, 703, 412, 1) := by decide +kernel
theorem k113_28 : icode MCl 113 28 = some (.iload_n 1, 29, 0, 0, 0) := by decide +kernel
theorem k113_29 : icode MCl 113 29 = some (.invokevirtual 160, 32, 36, 553, 0) := by decide +kernel
theorem k113_32 : icode MCl 113 32 = some (.aload_n 0, 33, 0, 0, 0) := by decide +kernel
theorem k113_33 : icode MCl 113 33 = some (.getfield 35, 36, 703, 412, 1) := by decide +kernel
theorem k113_36 : icode MCl 113 36 = some (.iload_n 1, 37, 0, 0, 0) := by decide +kernel
theorem k113_37 : icode MCl 113 37 = some (.invokevirtual 108, 40, 35, 465, 0) := by decide +kernel
theorem k113_40 : icode MCl 113 40 = some (.ifCond .eq 7, 43, 47, 0, 0) := by decide +kernel
theorem k113_43 : icode MCl 113 43 = some (.iconst 1, 44, 0, 0, 1) := by decide +kernel
theorem k113_44 : icode MCl 113 44 = some (.goto 4, 47, 48, 0, 0) := by decide +kernel
theorem k113_47 : icode MCl 113 47 = some (.iconst 0, 48, 0, 0, 0) := by decide +kernel
theorem k113_48 : icode MCl 113 48 = some (.ireturn, 49, 0, 0, 0) := by decide +kernel
theorem k114_0 : icode MCl 114 0 = some (.aload_n 0, 1, 0, 0, 0) := by decide +kernel
theorem k114_1 : icode MCl 114 1 = some (.iload_n 1, 2, 0, 0, 0) := by decide +kernel
theorem k114_2 : icode MCl 114 2 = some (.invokevirtual 139, 5, 78, 902, 0) := by decide +kernel
theorem k114_5 : icode MCl 114 5 = some (.ifCond .ne 5, 8, 10, 0, 0) := by decide +kernel
theorem k114_8 : icode MCl 114 8 = some (.iconst (-1), 9, 0, 0, (-1)) := by decide +kernel
theorem k114_9 : icode MCl 114 9 = some (.ireturn, 10, 0, 0, 0) := by decide +kernel
theorem k114_10 : icode MCl 114 10 = some (.aload_n 0, 11, 0, 0, 0) := by decide +kernel
theorem k114_11 : icode MCl 114 11 = some (.invokevirtual 167, 14, 107, 942, 0) := by decide +kernel
theorem k114_14 : icode MCl 114 14 = some (.aload_n 0, 15, 0, 0, 0) := by decide +kernel
theorem k114_15 : icode MCl 114 15 = some (.getfield 40, 18, 816, 791, 1) := by decide +kernel
theorem k114_18 : icode MCl 114 18 = some (.iconst 1, 19, 0, 0, 1) := by decide +kernel
theorem k114_19 : icode MCl 114 19 = some (.dup2, 20, 0, 0, 0) := by decide +kernel
theorem k114_20 : icode MCl 114 20 = some (.iaload, 21, 0, 0, 0) := by decide +kernel
theorem k114_21 : icode MCl 114 21 = some (.iconst 1, 22, 0, 0, 1) := by decide +kernel
theorem k114_22 : icode MCl 114 22 = some (.iload_n 1, 23, 0, 0, 0) := by decide +kernel
theorem k114_23 : icode MCl 114 23 = some (.ishl, 24, 0, 0, 0) := by decide +kernel
theorem k114_24 : icode MCl 114 24 = some (.ixor, 25, 0, 0, 0) := by decide +kernel
theorem k114_25 : icode MCl 114 25 = some (.iastore, 26, 0, 0, 0) := by decide +kernel
theorem k114_26 : icode MCl 114 26 = some (.aload_n 0, 27, 0, 0, 0) := by decide +kernel
theorem k114_27 : icode MCl 114 27 = some (.getfield 40, 30, 816, 791, 1) := by decide +kernel
theorem k114_30 : icode MCl 114 30 = some (.iconst 1, 31, 0, 0, 1) := by decide +kernel
theorem k114_31 : icode MCl 114 31 = some (.iaload, 32, 0, 0, 0) := by decide +kernel
theorem k114_32 : icode MCl 114 32 = some (.iload_n 1, 33, 0, 0, 0) := by decide +kernel
theorem k114_33 : icode MCl 114 33 = some (.ishr, 34, 0, 0, 0) := by decide +kernel
theorem k114_34 : icode MCl 114 34 = some (.iconst 1, 35, 0, 0, 1) := by decide +kernel
theorem k114_35 : icode MCl 114 35 = some (.iand, 36, 0, 0, 0) := by decide +kernel
theorem k114_36 : icode MCl 114 36 = some (.ireturn, 37, 0, 0, 0) := by decide +kernel
theorem k115_0 : icode MCl 115 0 = some (.aload_n 0, 1, 0, 0, 0) := by decide +kernel
theorem k115_1 : icode MCl 115 1 = some (.getfield 22, 4, 202, 146, 0) := by decide +kernel
theorem k115_4 : icode MCl 115 4 = some (.ireturn, 5, 0, 0, 0) := by decide +kernel
theorem k116_0 : icode MCl 116 0 = some (.aload_n 0, 1, 0, 0, 0) := by decide +kernel
theorem k116_1 : icode MCl 116 1 = some (.getfield 26, 4, 203, 147, 0) := by decide +kernel
theorem k116_4 : icode MCl 116 4 = some (.ireturn, 5, 0, 0, 0) := by decide +kernel
theorem k117_0 : icode MCl 117 0 = some (.aload_n 0, 1, 0, 0, 0) := by decide +kernel
theorem k117_1 : icode MCl 117 1 = some (.getfield 28, 4, 702, 411, 1) := by decide +kernel
theorem k117_4 : icode MCl 117 4 = some (.iload_n 1, 5, 0, 0, 0) := by decide +kernel
theorem k117_5 : icode MCl 117 5 = some (.invokevirtual 95, 8, 29, 461, 0) := by decide +kernel
theorem k117_8 : icode MCl 117 8 = some (.ifCond .eq 10, 11, 18, 0, 0) := by decide +kernel
theorem k117_11 : icode MCl 117 11 = some (.iload_n 2, 12, 0, 0, 0) := by decide +kernel
theorem k117_12 : icode MCl 117 12 = some (.invokestatic 163, 15, 88, 558, 0) := by decide +kernel
theorem k117_15 : icode MCl 117 15 = some (.ifCond .ne 5, 18, 20, 0, 0) := by decide +kernel
theorem k117_18 : icode MCl 117 18 = some (.iconst (-1), 19, 0, 0, (-1)) := by decide +kernel
theorem k117_19 : icode MCl 117 19 = some (.ireturn, 20, 0, 0, 0) := by decide +kernel
theorem k117_20 : icode MCl 117 20 = some (.aload_n 0, 21, 0, 0, 0) := by decide +kernel
theorem k117_21 : icode MCl 117 21 = some (.getfield 35, 24, 703, 412, 1) := by decide +kernel
theorem k117_24 : icode MCl 117 24 = some (.invokevirtual 166, 27, 115, 559, 0) := by decide +kernel
theorem k117_27 : icode MCl 117 27 = some (.bipush 6, 29, 0, 0, 6) := by decide +kernel
theorem k117_29 : icode MCl 117 29 = some (.if_icmp .lt 6, 32, 35, 0, 0) := by decide +kernel
theorem k117_32 : icode MCl 117 32 = some (.bipush (-3), 34, 0, 0, (-3)) := by decide +kernel
theorem k117_34 : icode MCl 117 34 = some (.ireturn, 35, 0, 0, 0) := by decide +kernel
theorem k117_35 : icode MCl 117 35 = some (.aload_n 0, 36, 0, 0, 0) := by decide +kernel
theorem k117_36 : icode MCl 117 36 = some (.getfield 47, 39, 705, 414, 1) := by decide +kernel
theorem k117_39 : icode MCl 117 39 = some (.aload_n 0, 40, 0, 0, 0) := by decide +kernel
theorem k117_40 : icode MCl 117 40 = some (.getfield 35, 43, 703, 412, 1) := by decide +kernel
theorem k117_43 : icode MCl 117 43 = some (.invokevirtual 149, 46, 100, 515, 0) := by decide +kernel
theorem k117_46 : icode MCl 117 46 = some (.aload_n 0, 47, 0, 0, 0) := by decide +kernel
theorem k117_47 : icode MCl 117 47 = some (.getfield 35, 50, 703, 412, 1) := by decide +kernel
theorem k117_50 : icode MCl 117 50 = some (.iload_n 1, 51, 0, 0, 0) := by decide +kernel
theorem k117_51 : icode MCl 117 51 = some (.aload_n 0, 52, 0, 0, 0) := by decide +kernel
theorem k117_52 : icode MCl 117 52 = some (.getfield 35, 55, 703, 412, 1) := by decide +kernel
theorem k117_55 : icode MCl 117 55 = some (.invokevirtual 167, 58, 116, 563, 0) := by decide +kernel
theorem k117_58 : icode MCl 117 58 = some (.iload_n 2, 59, 0, 0, 0) := by decide +kernel
theorem k117_59 : icode MCl 117 59 = some (.invokevirtual 170, 62, 32, 567, 0) := by decide +kernel
theorem k117_62 : icode MCl 117 62 = some (.pop, 63, 0, 0, 0) := by decide +kernel
theorem k117_63 : icode MCl 117 63 = some (.aload_n 0, 64, 0, 0, 0) := by decide +kernel
theorem k117_64 : icode MCl 117 64 = some (.getfield 35, 67, 703, 412, 1) := by decide +kernel
theorem k117_67 : icode MCl 117 67 = some (.invokevirtual 166, 70, 115, 559, 0) := by decide +kernel
theorem k117_70 : icode MCl 117 70 = some (.iconst 1, 71, 0, 0, 1) := by decide +kernel
theorem k117_71 : icode MCl 117 71 = some (.isub, 72, 0, 0, 0) := by decide +kernel
theorem k117_72 : icode MCl 117 72 = some (.ireturn, 73, 0, 0, 0) := by decide +kernel
theorem k118_0 : icode MCl 118 0 = some (.aload_n 0, 1, 0, 0, 0) := by decide +kernel
theorem k118_1 : icode MCl 118 1 = some (.iload_n 1, 2, 0, 0, 0) := by decide +kernel
theorem k118_2 : icode MCl 118 2 = some (.invokevirtual 139, 5, 78, 902, 0) := by decide +kernel
theorem k118_5 : icode MCl 118 5 = some (.ifCond .eq 10, 8, 15, 0, 0) := by decide +kernel
theorem k118_8 : icode MCl 118 8 = some (.iload_n 2, 9, 0, 0, 0) := by decide +kernel
theorem k118_9 : icode MCl 118 9 = some (.invokestatic 149, 12, 94, 925, 0) := by decide +kernel
theorem k118_12 : icode MCl 118 12 = some (.ifCond .ne 5, 15, 17, 0, 0) := by decide +kernel
theorem k118_15 : icode MCl 118 15 = some (.iconst (-1), 16, 0, 0, (-1)) := by decide +kernel
theorem k118_16 : icode MCl 118 16 = some (.ireturn, 17, 0, 0, 0) := by decide +kernel
theorem k118_17 : icode MCl 118 17 = some (.aload_n 0, 18, 0, 0, 0) := by decide +kernel
theorem k118_18 : icode MCl 118 18 = some (.getfield 40, 21, 816, 791, 1) := by decide +kernel
theorem k118_21 : icode MCl 118 21 = some (.iconst 2, 22, 0, 0, 2) := by decide +kernel
theorem k118_22 : icode MCl 118 22 = some (.iaload, 23, 0, 0, 0) := by decide +kernel
theorem k118_23 : icode MCl 118 23 = some (.bipush 6, 25, 0, 0, 6) := by decide +kernel
theorem k118_25 : icode MCl 118 25 = some (.if_icmp .ne 6, 28, 31, 0, 0) := by decide +kernel
theorem k118_28 : icode MCl 118 28 = some (.bipush (-3), 30, 0, 0, (-3)) := by decide +kernel
theorem k118_30 : icode MCl 118 30 = some (.ireturn, 31, 0, 0, 0) := by decide +kernel
theorem k118_31 : icode MCl 118 31 = some (.aload_n 0, 32, 0, 0, 0) := by decide +kernel
theorem k118_32 : icode MCl 118 32 = some (.invokevirtual 167, 35, 107, 942, 0) := by decide +kernel
theorem k118_35 : icode MCl 118 35 = some (.aload_n 0, 36, 0, 0, 0) := by decide +kernel
theorem k118_36 : icode MCl 118 36 = some (.getfield 40, 39, 816, 791, 1) := by decide +kernel
theorem k118_39 : icode MCl 118 39 = some (.iload_n 1, 40, 0, 0, 0) := by decide +kernel
theorem k118_40 : icode MCl 118 40 = some (.aload_n 0, 41, 0, 0, 0) := by decide +kernel
theorem k118_41 : icode MCl 118 41 = some (.getfield 40, 44, 816, 791, 1) := by decide +kernel
theorem k118_44 : icode MCl 118 44 = some (.iconst 0, 45, 0, 0, 0) := by decide +kernel
theorem k118_45 : icode MCl 118 45 = some (.iaload, 46, 0, 0, 0) := by decide +kernel
theorem k118_46 : icode MCl 118 46 = some (.iload_n 2, 47, 0, 0, 0) := by decide +kernel
theorem k118_47 : icode MCl 118 47 = some (.invokestatic 122, 50, 55, 772, 0) := by decide +kernel
theorem k118_50 : icode MCl 118 50 = some (.aload_n 0, 51, 0, 0, 0) := by decide +kernel
theorem k118_51 : icode MCl 118 51 = some (.getfield 40, 54, 816, 791, 1) := by decide +kernel
theorem k118_54 : icode MCl 118 54 = some (.iconst 2, 55, 0, 0, 2) := by decide +kernel
theorem k118_55 : icode MCl 118 55 = some (.iaload, 56, 0, 0, 0) := by decide +kernel
theorem k118_56 : icode MCl 118 56 = some (.iconst 1, 57, 0, 0, 1) := by decide +kernel
theorem k118_57 : icode MCl 118 57 = some (.isub, 58, 0, 0, 0) := by decide +kernel
theorem k118_58 : icode MCl 118 58 = some (.ireturn, 59, 0, 0, 0) := by decide +kernel
theorem k119_0 : icode MCl 119 0 = some (.aload_n 0, 1, 0, 0, 0) := by decide +kernel
theorem k119_1 : icode MCl 119 1 = some (.getfield 35, 4, 703, 412, 1) := by decide +kernel
theorem k119_4 : icode MCl 119 4 = some (.iload_n 1, 5, 0, 0, 0) := by decide +kernel
theorem k119_5 : icode MCl 119 5 = some (.invokevirtual 114, 8, 82, 478, 0) := by decide +kernel
theorem k119_8 : icode MCl 119 8 = some (.ifCond .eq 10, 11, 18, 0, 0) := by decide +kernel
theorem k119_11 : icode MCl 119 11 = some (.iload_n 2, 12, 0, 0, 0) := by decide +kernel
theorem k119_12 : icode MCl 119 12 = some (.invokestatic 163, 15, 88, 558, 0) := by decide +kernel
theorem k119_15 : icode MCl 119 15 = some (.ifCond .ne 5, 18, 20, 0, 0) := by decide +kernel
theorem k119_18 : icode MCl 119 18 = some (.iconst (-1), 19, 0, 0, (-1)) := by decide +kernel
theorem k119_19 : icode MCl 119 19 = some (.ireturn, 20, 0, 0, 0) := by decide +kernel
theorem k119_20 : icode MCl 119 20 = some (.aload_n 0, 21, 0, 0, 0) := by decide +kernel
theorem k119_21 : icode MCl 119 21 = some (.getfield 35, 24, 703, 412, 1) := by decide +kernel
theorem k119_24 : icode MCl 119 24 = some (.iload_n 1, 25, 0, 0, 0) := by decide +kernel
theorem k119_25 : icode MCl 119 25 = some (.invokevirtual 115, 28, 30, 482, 0) := by decide +kernel
theorem k119_28 : icode MCl 119 28 = some (.astore_n 3, 29, 0, 0, 0) := by decide +kernel
theorem k119_29 : icode MCl 119 29 = some (.aload_n 3, 30, 0, 0, 0) := by decide +kernel
theorem k119_30 : icode MCl 119 30 = some (.getfield 125, 33, 101, 119, 0) := by decide +kernel
theorem k119_33 : icode MCl 119 33 = some (.iconst 1, 34, 0, 0, 1) := by decide +kernel
theorem k119_34 : icode MCl 119 34 = some (.if_icmp .eq 6, 37, 40, 0, 0) := by decide +kernel
theorem k119_37 : icode MCl 119 37 = some (.bipush (-2), 39, 0, 0, (-2)) := by decide +kernel
theorem k119_39 : icode MCl 119 39 = some (.ireturn, 40, 0, 0, 0) := by decide +kernel
theorem k119_40 : icode MCl 119 40 = some (.aload_n 0, 41, 0, 0, 0) := by decide +kernel
theorem k119_41 : icode MCl 119 41 = some (.getfield 47, 44, 705, 414, 1) := by decide +kernel
theorem k119_44 : icode MCl 119 44 = some (.aload_n 0, 45, 0, 0, 0) := by decide +kernel
theorem k119_45 : icode MCl 119 45 = some (.getfield 35, 48, 703, 412, 1) := by decide +kernel
theorem k119_48 : icode MCl 119 48 = some (.invokevirtual 149, 51, 100, 515, 0) := by decide +kernel
theorem k119_51 : icode MCl 119 51 = some (.aload_n 3, 52, 0, 0, 0) := by decide +kernel
theorem k119_52 : icode MCl 119 52 = some (.getfield 131, 55, 103, 125, 0) := by decide +kernel
theorem k119_55 : icode MCl 119 55 = some (.istore 4, 57, 0, 0, 0) := by decide +kernel
theorem k119_57 : icode MCl 119 57 = some (.aload_n 3, 58, 0, 0, 0) := by decide +kernel
theorem k119_58 : icode MCl 119 58 = some (.iload_n 2, 59, 0, 0, 0) := by decide +kernel
theorem k119_59 : icode MCl 119 59 = some (.putfield 131, 62, 103, 125, 0) := by decide +kernel
theorem k119_62 : icode MCl 119 62 = some (.iload 4, 64, 0, 0, 0) := by decide +kernel
theorem k119_64 : icode MCl 119 64 = some (.ireturn, 65, 0, 0, 0) := by decide +kernel
theorem k120_0 : icode MCl 120 0 = some (.aload_n 0, 1, 0, 0, 0) := by decide +kernel
theorem k120_1 : icode MCl 120 1 = some (.iload_n 1, 2, 0, 0, 0) := by decide +kernel
theorem k120_2 : icode MCl 120 2 = some (.invokevirtual 146, 5, 84, 917, 0) := by decide +kernel
theorem k120_5 : icode MCl 120 5 = some (.ifCond .eq 10, 8, 15, 0, 0) := by decide +kernel
theorem k120_8 : icode MCl 120 8 = some (.iload_n 2, 9, 0, 0, 0) := by decide +kernel
theorem k120_9 : icode MCl 120 9 = some (.invokestatic 149, 12, 94, 925, 0) := by decide +kernel
theorem k120_12 : icode MCl 120 12 = some (.ifCond .ne 5, 15, 17, 0, 0) := by decide +kernel
theorem k120_15 : icode MCl 120 15 = some (.iconst (-1), 16, 0, 0, (-1)) := by decide +kernel
theorem k120_16 : icode MCl 120 16 = some (.ireturn, 17, 0, 0, 0) := by decide +kernel
theorem k120_17 : icode MCl 120 17 = some (.aload_n 0, 18, 0, 0, 0) := by decide +kernel
theorem k120_18 : icode MCl 120 18 = some (.getfield 40, 21, 816, 791, 1) := by decide +kernel
theorem k120_21 : icode MCl 120 21 = some (.iload_n 1, 22, 0, 0, 0) := by decide +kernel
theorem k120_22 : icode MCl 120 22 = some (.iconst 1, 23, 0, 0, 1) := by decide +kernel
theorem k120_23 : icode MCl 120 23 = some (.invokestatic 135, 26, 79, 910, 0) := by decide +kernel
theorem k120_26 : icode MCl 120 26 = some (.iconst 1, 27, 0, 0, 1) := by decide +kernel
theorem k120_27 : icode MCl 120 27 = some (.if_icmp .eq 6, 30, 33, 0, 0) := by decide +kernel
theorem k120_30 : icode MCl 120 30 = some (.bipush (-2), 32, 0, 0, (-2)) := by decide +kernel
theorem k120_32 : icode MCl 120 32 = some (.ireturn, 33, 0, 0, 0) := by decide +kernel
theorem k120_33 : icode MCl 120 33 = some (.aload_n 0, 34, 0, 0, 0) := by decide +kernel
theorem k120_34 : icode MCl 120 34 = some (.invokevirtual 167, 37, 107, 942, 0) := by decide +kernel
theorem k120_37 : icode MCl 120 37 = some (.aload_n 0, 38, 0, 0, 0) := by decide +kernel
theorem k120_38 : icode MCl 120 38 = some (.getfield 40, 41, 816, 791, 1) := by decide +kernel
theorem k120_41 : icode MCl 120 41 = some (.iload_n 1, 42, 0, 0, 0) := by decide +kernel
theorem k120_42 : icode MCl 120 42 = some (.iconst 3, 43, 0, 0, 3) := by decide +kernel
theorem k120_43 : icode MCl 120 43 = some (.invokestatic 135, 46, 79, 910, 0) := by decide +kernel
theorem k120_46 : icode MCl 120 46 = some (.istore_n 3, 47, 0, 0, 0) := by decide +kernel
theorem k120_47 : icode MCl 120 47 = some (.aload_n 0, 48, 0, 0, 0) := by decide +kernel
theorem k120_48 : icode MCl 120 48 = some (.getfield 40, 51, 816, 791, 1) := by decide +kernel
theorem k120_51 : icode MCl 120 51 = some (.iconst 3, 52, 0, 0, 3) := by decide +kernel
theorem k120_52 : icode MCl 120 52 = some (.bipush 6, 54, 0, 0, 6) := by decide +kernel
theorem k120_54 : icode MCl 120 54 = some (.iload_n 1, 55, 0, 0, 0) := by decide +kernel
theorem k120_55 : icode MCl 120 55 = some (.imul, 56, 0, 0, 0) := by decide +kernel
theorem k120_56 : icode MCl 120 56 = some (.iadd, 57, 0, 0, 0) := by decide +kernel
theorem k120_57 : icode MCl 120 57 = some (.iconst 3, 58, 0, 0, 3) := by decide +kernel
theorem k120_58 : icode MCl 120 58 = some (.iadd, 59, 0, 0, 0) := by decide +kernel
theorem k120_59 : icode MCl 120 59 = some (.iload_n 2, 60, 0, 0, 0) := by decide +kernel
theorem k120_60 : icode MCl 120 60 = some (.iastore, 61, 0, 0, 0) := by decide +kernel
theorem k120_61 : icode MCl 120 61 = some (.iload_n 3, 62, 0, 0, 0) := by decide +kernel
theorem k120_62 : icode MCl 120 62 = some (.ireturn, 63, 0, 0, 0) := by decide +kernel
theorem k121_0 : icode MCl 121 0 = some (.aload_n 0, 1, 0, 0, 0) := by decide +kernel
theorem k121_1 : icode MCl 121 1 = some (.getfield 22, 4, 301, 192, 0) := by decide +kernel
theorem k121_4 : icode MCl 121 4 = some (.iconst 1, 5, 0, 0, 1) := by decide +kernel
theorem k121_5 : icode MCl 121 5 = some (.isub, 6, 0, 0, 0) := by decide +kernel
theorem k121_6 : icode MCl 121 6 = some (.istore_n 2, 7, 0, 0, 0) := by decide +kernel
theorem k121_7 : icode MCl 121 7 = some (.iload_n 2, 8, 0, 0, 0) := by decide +kernel
theorem k121_8 : icode MCl 121 8 = some (.ifCond .lt 21, 11, 29, 0, 0) := by decide +kernel
theorem k121_11 : icode MCl 121 11 = some (.iload_n 2, 12, 0, 0, 0) := by decide +kernel
theorem k121_12 : icode MCl 121 12 = some (.aload_n 0, 13, 0, 0, 0) := by decide +kernel
theorem k121_13 : icode MCl 121 13 = some (.getfield 15, 16, 300, 191, 1) := by decide +kernel
theorem k121_16 : icode MCl 121 16 = some (.arraylength, 17, 0, 0, 0) := by decide +kernel
theorem k121_17 : icode MCl 121 17 = some (.if_icmp .ge 12, 20, 29, 0, 0) := by decide +kernel
theorem k121_20 : icode MCl 121 20 = some (.aload_n 0, 21, 0, 0, 0) := by decide +kernel
theorem k121_21 : icode MCl 121 21 = some (.getfield 15, 24, 300, 191, 1) := by decide +kernel
theorem k121_24 : icode MCl 121 24 = some (.iload_n 2, 25, 0, 0, 0) := by decide +kernel
theorem k121_25 : icode MCl 121 25 = some (.aaload, 26, 0, 0, 0) := by decide +kernel
theorem k121_26 : icode MCl 121 26 = some (.goto 4, 29, 30, 0, 0) := by decide +kernel
theorem k121_29 : icode MCl 121 29 = some (.aconst_null, 30, 0, 0, 0) := by decide +kernel
theorem k121_30 : icode MCl 121 30 = some (.astore_n 3, 31, 0, 0, 0) := by decide +kernel
theorem k121_31 : icode MCl 121 31 = some (.aload_n 3, 32, 0, 0, 0) := by decide +kernel
theorem k121_32 : icode MCl 121 32 = some (.ifnonnull 5, 35, 37, 0, 0) := by decide +kernel
theorem k121_35 : icode MCl 121 35 = some (.iconst 0, 36, 0, 0, 0) := by decide +kernel
theorem k121_36 : icode MCl 121 36 = some (.ireturn, 37, 0, 0, 0) := by decide +kernel
theorem k121_37 : icode MCl 121 37 = some (.aload_n 1, 38, 0, 0, 0) := by decide +kernel
theorem k121_38 : icode MCl 121 38 = some (.aload_n 3, 39, 0, 0, 0) := by decide +kernel
theorem k121_39 : icode MCl 121 39 = some (.invokevirtual 29, 42, 46, 523, 0) := by decide +kernel
theorem k121_42 : icode MCl 121 42 = some (.aload_n 0, 43, 0, 0, 0) := by decide +kernel
theorem k121_43 : icode MCl 121 43 = some (.iload_n 2, 44, 0, 0, 0) := by decide +kernel
theorem k121_44 : icode MCl 121 44 = some (.putfield 22, 47, 301, 192, 0) := by decide +kernel
theorem k121_47 : icode MCl 121 47 = some (.iconst 1, 48, 0, 0, 1) := by decide +kernel
theorem k121_48 : icode MCl 121 48 = some (.ireturn, 49, 0, 0, 0) := by decide +kernel
theorem k122_0 : icode MCl 122 0 = some (.aload_n 0, 1, 0, 0, 0) := by decide +kernel
theorem k122_1 : icode MCl 122 1 = some (.getfield 22, 4, 301, 192, 0) := by decide +kernel
theorem k122_4 : icode MCl 122 4 = some (.ireturn, 5, 0, 0, 0) := by decide +kernel
theorem k123_0 : icode MCl 123 0 = some (.aload_n 0, 1, 0, 0, 0) := by decide +kernel
theorem k123_1 : icode MCl 123 1 = some (.getfield 47, 4, 705, 414, 1) := by decide +kernel
theorem k123_4 : icode MCl 123 4 = some (.aload_n 0, 5, 0, 0, 0) := by decide +kernel
theorem k123_5 : icode MCl 123 5 = some (.getfield 35, 8, 703, 412, 1) := by decide +kernel
theorem k123_8 : icode MCl 123 8 = some (.invokevirtual 172, 11, 121, 576, 0) := by decide +kernel
theorem k123_11 : icode MCl 123 11 = some (.ifCond .eq 13, 14, 24, 0, 0) := by decide +kernel
theorem k123_14 : icode MCl 123 14 = some (.aload_n 0, 15, 0, 0, 0) := by decide +kernel
theorem k123_15 : icode MCl 123 15 = some (.getfield 47, 18, 705, 414, 1) := by decide +kernel
theorem k123_18 : icode MCl 123 18 = some (.invokevirtual 176, 21, 122, 580, 0) := by decide +kernel
theorem k123_21 : icode MCl 123 21 = some (.goto 5, 24, 26, 0, 0) := by decide +kernel
theorem k123_24 : icode MCl 123 24 = some (.bipush (-2), 26, 0, 0, (-2)) := by decide +kernel
theorem k123_26 : icode MCl 123 26 = some (.ireturn, 27, 0, 0, 0) := by decide +kernel
theorem k124_0 : icode MCl 124 0 = some (.aload_n 0, 1, 0, 0, 0) := by decide +kernel
theorem k124_1 : icode MCl 124 1 = some (.getfield 126, 4, 818, 793, 0) := by decide +kernel
theorem k124_4 : icode MCl 124 4 = some (.ifCond .ne 6, 7, 10, 0, 0) := by decide +kernel
theorem k124_7 : icode MCl 124 7 = some (.bipush (-2), 9, 0, 0, (-2)) := by decide +kernel
theorem k124_9 : icode MCl 124 9 = some (.ireturn, 10, 0, 0, 0) := by decide +kernel
theorem k124_10 : icode MCl 124 10 = some (.aload_n 0, 11, 0, 0, 0) := by decide +kernel
theorem k124_11 : icode MCl 124 11 = some (.aload_n 0, 12, 0, 0, 0) := by decide +kernel
theorem k124_12 : icode MCl 124 12 = some (.getfield 164, 15, 819, 794, 0) := by decide +kernel
theorem k124_15 : icode MCl 124 15 = some (.bipush 8, 17, 0, 0, 8) := by decide +kernel
theorem k124_17 : icode MCl 124 17 = some (.iadd, 18, 0, 0, 0) := by decide +kernel
theorem k124_18 : icode MCl 124 18 = some (.iconst 1, 19, 0, 0, 1) := by decide +kernel
theorem k124_19 : icode MCl 124 19 = some (.isub, 20, 0, 0, 0) := by decide +kernel
theorem k124_20 : icode MCl 124 20 = some (.bipush 8, 22, 0, 0, 8) := by decide +kernel
theorem k124_22 : icode MCl 124 22 = some (.irem, 23, 0, 0, 0) := by decide +kernel
theorem k124_23 : icode MCl 124 23 = some (.putfield 164, 26, 819, 794, 0) := by decide +kernel
theorem k124_26 : icode MCl 124 26 = some (.aload_n 0, 27, 0, 0, 0) := by decide +kernel
theorem k124_27 : icode MCl 124 27 = some (.dup, 28, 0, 0, 0) := by decide +kernel
theorem k124_28 : icode MCl 124 28 = some (.getfield 126, 31, 818, 793, 0) := by decide +kernel
theorem k124_31 : icode MCl 124 31 = some (.iconst 1, 32, 0, 0, 1) := by decide +kernel
theorem k124_32 : icode MCl 124 32 = some (.isub, 33, 0, 0, 0) := by decide +kernel
theorem k124_33 : icode MCl 124 33 = some (.putfield 126, 36, 818, 793, 0) := by decide +kernel
theorem k124_36 : icode MCl 124 36 = some (.iconst 0, 37, 0, 0, 0) := by decide +kernel
theorem k124_37 : icode MCl 124 37 = some (.istore_n 1, 38, 0, 0, 0) := by decide +kernel
theorem k124_38 : icode MCl 124 38 = some (.iload_n 1, 39, 0, 0, 0) := by decide +kernel
theorem k124_39 : icode MCl 124 39 = some (.bipush 39, 41, 0, 0, 39) := by decide +kernel
theorem k124_41 : icode MCl 124 41 = some (.if_icmp .ge 29, 44, 70, 0, 0) := by decide +kernel
theorem k124_44 : icode MCl 124 44 = some (.aload_n 0, 45, 0, 0, 0) := by decide +kernel
theorem k124_45 : icode MCl 124 45 = some (.getfield 40, 48, 816, 791, 1) := by decide +kernel
theorem k124_48 : icode MCl 124 48 = some (.iload_n 1, 49, 0, 0, 0) := by decide +kernel
theorem k124_49 : icode MCl 124 49 = some (.aload_n 0, 50, 0, 0, 0) := by decide +kernel
theorem k124_50 : icode MCl 124 50 = some (.getfield 46, 53, 820, 795, 1) := by decide +kernel
theorem k124_53 : icode MCl 124 53 = some (.bipush 39, 55, 0, 0, 39) := by decide +kernel
theorem k124_55 : icode MCl 124 55 = some (.aload_n 0, 56, 0, 0, 0) := by decide +kernel
theorem k124_56 : icode MCl 124 56 = some (.getfield 164, 59, 819, 794, 0) := by decide +kernel
theorem k124_59 : icode MCl 124 59 = some (.imul, 60, 0, 0, 0) := by decide +kernel
theorem k124_60 : icode MCl 124 60 = some (.iload_n 1, 61, 0, 0, 0) := by decide +kernel
theorem k124_61 : icode MCl 124 61 = some (.iadd, 62, 0, 0, 0) := by decide +kernel
theorem k124_62 : icode MCl 124 62 = some (.iaload, 63, 0, 0, 0) := by decide +kernel
theorem k124_63 : icode MCl 124 63 = some (.iastore, 64, 0, 0, 0) := by decide +kernel
theorem k124_64 : icode MCl 124 64 = some (.iinc 1 1, 67, 0, 0, 1) := by decide +kernel
theorem k124_67 : icode MCl 124 67 = some (.goto (-29), 70, 38, 0, 0) := by decide +kernel
theorem k124_70 : icode MCl 124 70 = some (.aload_n 0, 71, 0, 0, 0) := by decide +kernel
theorem k124_71 : icode MCl 124 71 = some (.getfield 126, 74, 818, 793, 0) := by decide +kernel
theorem k124_74 : icode MCl 124 74 = some (.ireturn, 75, 0, 0, 0) := by decide +kernel
theorem k125_0 : icode MCl 125 0 = some (.iload_n 3, 1, 0, 0, 0) := by decide +kernel
theorem k125_1 : icode MCl 125 1 = some (.istore 5, 3, 0, 0, 0) := by decide +kernel
theorem k125_3 : icode MCl 125 3 = some (.iload 4, 5, 0, 0, 0) := by decide +kernel
theorem k125_5 : icode MCl 125 5 = some (.istore 6, 7, 0, 0, 0) := by decide +kernel
theorem k125_7 : icode MCl 125 7 = some (.iconst 0, 8, 0, 0, 0) := by decide +kernel
theorem k125_8 : icode MCl 125 8 = some (.istore 7, 10, 0, 0, 0) := by decide +kernel
theorem k125_10 : icode MCl 125 10 = some (.iload 7, 12, 0, 0, 0) := by decide +kernel
theorem k125_12 : icode MCl 125 12 = some (.bipush 9, 14, 0, 0, 9) := by decide +kernel
theorem k125_14 : icode MCl 125 14 = some (.if_icmp .ge 52, 17, 66, 0, 0) := by decide +kernel
theorem k125_17 : icode MCl 125 17 = some (.iload 5, 19, 0, 0, 0) := by decide +kernel
theorem k125_19 : icode MCl 125 19 = some (.iload_n 1, 20, 0, 0, 0) := by decide +kernel
theorem k125_20 : icode MCl 125 20 = some (.if_icmp .ne 7, 23, 27, 0, 0) := by decide +kernel
theorem k125_23 : icode MCl 125 23 = some (.iload_n 2, 24, 0, 0, 0) := by decide +kernel
theorem k125_24 : icode MCl 125 24 = some (.goto 9, 27, 33, 0, 0) := by decide +kernel
theorem k125_27 : icode MCl 125 27 = some (.aload_n 0, 28, 0, 0, 0) := by decide +kernel
theorem k125_28 : icode MCl 125 28 = some (.iload 5, 30, 0, 0, 0) := by decide +kernel
theorem k125_30 : icode MCl 125 30 = some (.invokevirtual 44, 33, 41, 373, 0) := by decide +kernel
theorem k125_33 : icode MCl 125 33 = some (.iload 6, 35, 0, 0, 0) := by decide +kernel
theorem k125_35 : icode MCl 125 35 = some (.invokestatic 57, 38, 92, 596, 0) := by decide +kernel
theorem k125_38 : icode MCl 125 38 = some (.istore 6, 40, 0, 0, 0) := by decide +kernel
theorem k125_40 : icode MCl 125 40 = some (.aload_n 0, 41, 0, 0, 0) := by decide +kernel
theorem k125_41 : icode MCl 125 41 = some (.iload 5, 43, 0, 0, 0) := by decide +kernel
theorem k125_43 : icode MCl 125 43 = some (.invokevirtual 63, 46, 101, 597, 0) := by decide +kernel
theorem k125_46 : icode MCl 125 46 = some (.ifCond .eq 6, 49, 52, 0, 0) := by decide +kernel
theorem k125_49 : icode MCl 125 49 = some (.goto 17, 52, 66, 0, 0) := by decide +kernel
theorem k125_52 : icode MCl 125 52 = some (.aload_n 0, 53, 0, 0, 0) := by decide +kernel
theorem k125_53 : icode MCl 125 53 = some (.iload 5, 55, 0, 0, 0) := by decide +kernel
theorem k125_55 : icode MCl 125 55 = some (.invokevirtual 29, 58, 43, 384, 0) := by decide +kernel
theorem k125_58 : icode MCl 125 58 = some (.istore 5, 60, 0, 0, 0) := by decide +kernel
theorem k125_60 : icode MCl 125 60 = some (.iinc 7 1, 63, 0, 0, 1) := by decide +kernel
theorem k125_63 : icode MCl 125 63 = some (.goto (-53), 66, 10, 0, 0) := by decide +kernel
theorem k125_66 : icode MCl 125 66 = some (.iload 6, 68, 0, 0, 0) := by decide +kernel
theorem k125_68 : icode MCl 125 68 = some (.ireturn, 69, 0, 0, 0) := by decide +kernel
theorem k126_0 : icode MCl 126 0 = some (.aload_n 0, 1, 0, 0, 0) := by decide +kernel
theorem k126_1 : icode MCl 126 1 = some (.iconst (-1), 2, 0, 0, (-1)) := by decide +kernel
theorem k126_2 : icode MCl 126 2 = some (.iconst 0, 3, 0, 0, 0) := by decide +kernel
theorem k126_3 : icode MCl 126 3 = some (.iload_n 1, 4, 0, 0, 0) := by decide +kernel
theorem k126_4 : icode MCl 126 4 = some (.iload_n 2, 5, 0, 0, 0) := by decide +kernel
theorem k126_5 : icode MCl 126 5 = some (.invokevirtual 53, 8, 125, 592, 0) := by decide +kernel
theorem k126_8 : icode MCl 126 8 = some (.ireturn, 9, 0, 0, 0) := by decide +kernel
theorem k127_0 : icode MCl 127 0 = some (.iload_n 1, 1, 0, 0, 0) := by decide +kernel
theorem k127_1 : icode MCl 127 1 = some (.istore_n 2, 2, 0, 0, 0) := by decide +kernel
theorem k127_2 : icode MCl 127 2 = some (.iconst 0, 3, 0, 0, 0) := by decide +kernel
theorem k127_3 : icode MCl 127 3 = some (.istore_n 3, 4, 0, 0, 0) := by decide +kernel
theorem k127_4 : icode MCl 127 4 = some (.iconst 0, 5, 0, 0, 0) := by decide +kernel
theorem k127_5 : icode MCl 127 5 = some (.istore 4, 7, 0, 0, 0) := by decide +kernel
theorem k127_7 : icode MCl 127 7 = some (.iload 4, 9, 0, 0, 0) := by decide +kernel
theorem k127_9 : icode MCl 127 9 = some (.bipush 9, 11, 0, 0, 9) := by decide +kernel
theorem k127_11 : icode MCl 127 11 = some (.if_icmp .ge 32, 14, 43, 0, 0) := by decide +kernel
theorem k127_14 : icode MCl 127 14 = some (.iload_n 3, 15, 0, 0, 0) := by decide +kernel
theorem k127_15 : icode MCl 127 15 = some (.iconst 1, 16, 0, 0, 1) := by decide +kernel
theorem k127_16 : icode MCl 127 16 = some (.iload_n 2, 17, 0, 0, 0) := by decide +kernel
theorem k127_17 : icode MCl 127 17 = some (.ishl, 18, 0, 0, 0) := by decide +kernel
theorem k127_18 : icode MCl 127 18 = some (.ior, 19, 0, 0, 0) := by decide +kernel
theorem k127_19 : icode MCl 127 19 = some (.istore_n 3, 20, 0, 0, 0) := by decide +kernel
theorem k127_20 : icode MCl 127 20 = some (.aload_n 0, 21, 0, 0, 0) := by decide +kernel
theorem k127_21 : icode MCl 127 21 = some (.iload_n 2, 22, 0, 0, 0) := by decide +kernel
theorem k127_22 : icode MCl 127 22 = some (.invokevirtual 63, 25, 101, 597, 0) := by decide +kernel
theorem k127_25 : icode MCl 127 25 = some (.ifCond .eq 6, 28, 31, 0, 0) := by decide +kernel
theorem k127_28 : icode MCl 127 28 = some (.goto 15, 31, 43, 0, 0) := by decide +kernel
theorem k127_31 : icode MCl 127 31 = some (.aload_n 0, 32, 0, 0, 0) := by decide +kernel
theorem k127_32 : icode MCl 127 32 = some (.iload_n 2, 33, 0, 0, 0) := by decide +kernel
theorem k127_33 : icode MCl 127 33 = some (.invokevirtual 29, 36, 43, 384, 0) := by decide +kernel
theorem k127_36 : icode MCl 127 36 = some (.istore_n 2, 37, 0, 0, 0) := by decide +kernel
theorem k127_37 : icode MCl 127 37 = some (.iinc 4 1, 40, 0, 0, 1) := by decide +kernel
theorem k127_40 : icode MCl 127 40 = some (.goto (-33), 43, 7, 0, 0) := by decide +kernel
theorem k127_43 : icode MCl 127 43 = some (.iload_n 3, 44, 0, 0, 0) := by decide +kernel
theorem k127_44 : icode MCl 127 44 = some (.ireturn, 45, 0, 0, 0) := by decide +kernel
theorem k128_0 : icode MCl 128 0 = some (.aload_n 0, 1, 0, 0, 0) := by decide +kernel
theorem k128_1 : icode MCl 128 1 = some (.iload_n 1, 2, 0, 0, 0) := by decide +kernel
theorem k128_2 : icode MCl 128 2 = some (.invokevirtual 67, 5, 127, 602, 0) := by decide +kernel
theorem k128_5 : icode MCl 128 5 = some (.istore_n 2, 6, 0, 0, 0) := by decide +kernel
theorem k128_6 : icode MCl 128 6 = some (.iconst 0, 7, 0, 0, 0) := by decide +kernel
theorem k128_7 : icode MCl 128 7 = some (.istore_n 3, 8, 0, 0, 0) := by decide +kernel
theorem k128_8 : icode MCl 128 8 = some (.iconst 0, 9, 0, 0, 0) := by decide +kernel
theorem k128_9 : icode MCl 128 9 = some (.istore 4, 11, 0, 0, 0) := by decide +kernel
theorem k128_11 : icode MCl 128 11 = some (.iload 4, 13, 0, 0, 0) := by decide +kernel
theorem k128_13 : icode MCl 128 13 = some (.aload_n 0, 14, 0, 0, 0) := by decide +kernel
theorem k128_14 : icode MCl 128 14 = some (.getfield 21, 17, 603, 93, 0) := by decide +kernel
theorem k128_17 : icode MCl 128 17 = some (.if_icmp .ge 31, 20, 48, 0, 0) := by decide +kernel
theorem k128_20 : icode MCl 128 20 = some (.iload_n 3, 21, 0, 0, 0) := by decide +kernel
theorem k128_21 : icode MCl 128 21 = some (.iload_n 2, 22, 0, 0, 0) := by decide +kernel
theorem k128_22 : icode MCl 128 22 = some (.iload 4, 24, 0, 0, 0) := by decide +kernel
theorem k128_24 : icode MCl 128 24 = some (.invokestatic 70, 27, 34, 606, 1) := by decide +kernel
theorem k128_27 : icode MCl 128 27 = some (.ifCond .eq 12, 30, 39, 0, 0) := by decide +kernel
theorem k128_30 : icode MCl 128 30 = some (.aload_n 0, 31, 0, 0, 0) := by decide +kernel
theorem k128_31 : icode MCl 128 31 = some (.iload 4, 33, 0, 0, 0) := by decide +kernel
theorem k128_33 : icode MCl 128 33 = some (.invokevirtual 47, 36, 42, 380, 0) := by decide +kernel
theorem k128_36 : icode MCl 128 36 = some (.goto 4, 39, 40, 0, 0) := by decide +kernel
theorem k128_39 : icode MCl 128 39 = some (.iconst 0, 40, 0, 0, 0) := by decide +kernel
theorem k128_40 : icode MCl 128 40 = some (.iadd, 41, 0, 0, 0) := by decide +kernel
theorem k128_41 : icode MCl 128 41 = some (.istore_n 3, 42, 0, 0, 0) := by decide +kernel
theorem k128_42 : icode MCl 128 42 = some (.iinc 4 1, 45, 0, 0, 1) := by decide +kernel
theorem k128_45 : icode MCl 128 45 = some (.goto (-34), 48, 11, 0, 0) := by decide +kernel
theorem k128_48 : icode MCl 128 48 = some (.iload_n 3, 49, 0, 0, 0) := by decide +kernel
theorem k128_49 : icode MCl 128 49 = some (.ireturn, 50, 0, 0, 0) := by decide +kernel
theorem k129_0 : icode MCl 129 0 = some (.aload_n 0, 1, 0, 0, 0) := by decide +kernel
theorem k129_1 : icode MCl 129 1 = some (.getfield 28, 4, 702, 411, 1) := by decide +kernel
theorem k129_4 : icode MCl 129 4 = some (.iload_n 1, 5, 0, 0, 0) := by decide +kernel
theorem k129_5 : icode MCl 129 5 = some (.invokevirtual 95, 8, 29, 461, 0) := by decide +kernel
theorem k129_8 : icode MCl 129 8 = some (.ifCond .eq 19, 11, 27, 0, 0) := by decide +kernel
theorem k129_11 : icode MCl 129 11 = some (.iload_n 2, 12, 0, 0, 0) := by decide +kernel
theorem k129_12 : icode MCl 129 12 = some (.invokestatic 163, 15, 88, 558, 0) := by decide +kernel
theorem k129_15 : icode MCl 129 15 = some (.ifCond .eq 12, 18, 27, 0, 0) := by decide +kernel
theorem k129_18 : icode MCl 129 18 = some (.iload_n 3, 19, 0, 0, 0) := by decide +kernel
theorem k129_19 : icode MCl 129 19 = some (.iconst 0, 20, 0, 0, 0) := by decide +kernel
theorem k129_20 : icode MCl 129 20 = some (.iconst 1, 21, 0, 0, 1) := by decide +kernel
theorem k129_21 : icode MCl 129 21 = some (.invokestatic 86, 24, 22, 439, 0) := by decide +kernel
theorem k129_24 : icode MCl 129 24 = some (.ifCond .ne 5, 27, 29, 0, 0) := by decide +kernel
theorem k129_27 : icode MCl 129 27 = some (.iconst (-1), 28, 0, 0, (-1)) := by decide +kernel
theorem k129_28 : icode MCl 129 28 = some (.ireturn, 29, 0, 0, 0) := by decide +kernel
theorem k129_29 : icode MCl 129 29 = some (.iload_n 3, 30, 0, 0, 0) := by decide +kernel
theorem k129_30 : icode MCl 129 30 = some (.ifCond .ne 15, 33, 45, 0, 0) := by decide +kernel
theorem k129_33 : icode MCl 129 33 = some (.aload_n 0, 34, 0, 0, 0) := by decide +kernel
theorem k129_34 : icode MCl 129 34 = some (.getfield 28, 37, 702, 411, 1) := by decide +kernel
theorem k129_37 : icode MCl 129 37 = some (.iload_n 1, 38, 0, 0, 0) := by decide +kernel
theorem k129_38 : icode MCl 129 38 = some (.iload_n 2, 39, 0, 0, 0) := by decide +kernel
theorem k129_39 : icode MCl 129 39 = some (.invokevirtual 177, 42, 126, 588, 0) := by decide +kernel
theorem k129_42 : icode MCl 129 42 = some (.goto 11, 45, 53, 0, 0) := by decide +kernel
theorem k129_45 : icode MCl 129 45 = some (.aload_n 0, 46, 0, 0, 0) := by decide +kernel
theorem k129_46 : icode MCl 129 46 = some (.getfield 28, 49, 702, 411, 1) := by decide +kernel
theorem k129_49 : icode MCl 129 49 = some (.iload_n 1, 50, 0, 0, 0) := by decide +kernel
theorem k129_50 : icode MCl 129 50 = some (.invokevirtual 180, 53, 128, 598, 0) := by decide +kernel
theorem k129_53 : icode MCl 129 53 = some (.ireturn, 54, 0, 0, 0) := by decide +kernel
theorem k130_0 : icode MCl 130 0 = some (.iload_n 1, 1, 0, 0, 0) := by decide +kernel
theorem k130_1 : icode MCl 130 1 = some (.iload_n 3, 2, 0, 0, 0) := by decide +kernel
theorem k130_2 : icode MCl 130 2 = some (.if_icmp .ne 8, 5, 10, 0, 0) := by decide +kernel
theorem k130_5 : icode MCl 130 5 = some (.iload 4, 7, 0, 0, 0) := by decide +kernel
theorem k130_7 : icode MCl 130 7 = some (.goto 9, 10, 16, 0, 0) := by decide +kernel
theorem k130_10 : icode MCl 130 10 = some (.aload_n 0, 11, 0, 0, 0) := by decide +kernel
theorem k130_11 : icode MCl 130 11 = some (.getfield 31, 14, 813, 788, 1) := by decide +kernel
theorem k130_14 : icode MCl 130 14 = some (.iload_n 1, 15, 0, 0, 0) := by decide +kernel
theorem k130_15 : icode MCl 130 15 = some (.iaload, 16, 0, 0, 0) := by decide +kernel
theorem k130_16 : icode MCl 130 16 = some (.iload_n 2, 17, 0, 0, 0) := by decide +kernel
theorem k130_17 : icode MCl 130 17 = some (.invokestatic 152, 20, 97, 929, 0) := by decide +kernel
theorem k130_20 : icode MCl 130 20 = some (.istore 5, 22, 0, 0, 0) := by decide +kernel
theorem k130_22 : icode MCl 130 22 = some (.iload_n 1, 23, 0, 0, 0) := by decide +kernel
theorem k130_23 : icode MCl 130 23 = some (.istore 6, 25, 0, 0, 0) := by decide +kernel
theorem k130_25 : icode MCl 130 25 = some (.aload_n 0, 26, 0, 0, 0) := by decide +kernel
theorem k130_26 : icode MCl 130 26 = some (.getfield 37, 29, 815, 790, 1) := by decide +kernel
theorem k130_29 : icode MCl 130 29 = some (.iload 6, 31, 0, 0, 0) := by decide +kernel
theorem k130_31 : icode MCl 130 31 = some (.iaload, 32, 0, 0, 0) := by decide +kernel
theorem k130_32 : icode MCl 130 32 = some (.iload 6, 34, 0, 0, 0) := by decide +kernel
theorem k130_34 : icode MCl 130 34 = some (.if_icmp .eq 50, 37, 84, 0, 0) := by decide +kernel
theorem k130_37 : icode MCl 130 37 = some (.aload_n 0, 38, 0, 0, 0) := by decide +kernel
theorem k130_38 : icode MCl 130 38 = some (.getfield 37, 41, 815, 790, 1) := by decide +kernel
theorem k130_41 : icode MCl 130 41 = some (.iload 6, 43, 0, 0, 0) := by decide +kernel
theorem k130_43 : icode MCl 130 43 = some (.iaload, 44, 0, 0, 0) := by decide +kernel
theorem k130_44 : icode MCl 130 44 = some (.iload_n 3, 45, 0, 0, 0) := by decide +kernel
theorem k130_45 : icode MCl 130 45 = some (.if_icmp .ne 8, 48, 53, 0, 0) := by decide +kernel
theorem k130_48 : icode MCl 130 48 = some (.iload 4, 50, 0, 0, 0) := by decide +kernel
theorem k130_50 : icode MCl 130 50 = some (.goto 15, 53, 65, 0, 0) := by decide +kernel
theorem k130_53 : icode MCl 130 53 = some (.aload_n 0, 54, 0, 0, 0) := by decide +kernel
theorem k130_54 : icode MCl 130 54 = some (.getfield 31, 57, 813, 788, 1) := by decide +kernel
theorem k130_57 : icode MCl 130 57 = some (.aload_n 0, 58, 0, 0, 0) := by decide +kernel
theorem k130_58 : icode MCl 130 58 = some (.getfield 37, 61, 815, 790, 1) := by decide +kernel
theorem k130_61 : icode MCl 130 61 = some (.iload 6, 63, 0, 0, 0) := by decide +kernel
theorem k130_63 : icode MCl 130 63 = some (.iaload, 64, 0, 0, 0) := by decide +kernel
theorem k130_64 : icode MCl 130 64 = some (.iaload, 65, 0, 0, 0) := by decide +kernel
theorem k130_65 : icode MCl 130 65 = some (.iload 5, 67, 0, 0, 0) := by decide +kernel
theorem k130_67 : icode MCl 130 67 = some (.invokestatic 152, 70, 97, 929, 0) := by decide +kernel
theorem k130_70 : icode MCl 130 70 = some (.istore 5, 72, 0, 0, 0) := by decide +kernel
theorem k130_72 : icode MCl 130 72 = some (.aload_n 0, 73, 0, 0, 0) := by decide +kernel
theorem k130_73 : icode MCl 130 73 = some (.getfield 37, 76, 815, 790, 1) := by decide +kernel
theorem k130_76 : icode MCl 130 76 = some (.iload 6, 78, 0, 0, 0) := by decide +kernel
theorem k130_78 : icode MCl 130 78 = some (.iaload, 79, 0, 0, 0) := by decide +kernel
theorem k130_79 : icode MCl 130 79 = some (.istore 6, 81, 0, 0, 0) := by decide +kernel
theorem k130_81 : icode MCl 130 81 = some (.goto (-56), 84, 25, 0, 0) := by decide +kernel
theorem k130_84 : icode MCl 130 84 = some (.iload 5, 86, 0, 0, 0) := by decide +kernel
theorem k130_86 : icode MCl 130 86 = some (.ireturn, 87, 0, 0, 0) := by decide +kernel
theorem k131_0 : icode MCl 131 0 = some (.aload_n 0, 1, 0, 0, 0) := by decide +kernel
theorem k131_1 : icode MCl 131 1 = some (.iload_n 1, 2, 0, 0, 0) := by decide +kernel
theorem k131_2 : icode MCl 131 2 = some (.iload_n 2, 3, 0, 0, 0) := by decide +kernel
theorem k131_3 : icode MCl 131 3 = some (.iconst (-1), 4, 0, 0, (-1)) := by decide +kernel
theorem k131_4 : icode MCl 131 4 = some (.iconst 0, 5, 0, 0, 0) := by decide +kernel
theorem k131_5 : icode MCl 131 5 = some (.invokevirtual 178, 8, 130, 984, 0) := by decide +kernel
theorem k131_8 : icode MCl 131 8 = some (.ireturn, 9, 0, 0, 0) := by decide +kernel
theorem k132_0 : icode MCl 132 0 = some (.aload_n 0, 1, 0, 0, 0) := by decide +kernel
theorem k132_1 : icode MCl 132 1 = some (.iload_n 1, 2, 0, 0, 0) := by decide +kernel
theorem k132_2 : icode MCl 132 2 = some (.invokevirtual 139, 5, 78, 902, 0) := by decide +kernel
theorem k132_5 : icode MCl 132 5 = some (.ifCond .eq 19, 8, 24, 0, 0) := by decide +kernel
theorem k132_8 : icode MCl 132 8 = some (.iload_n 2, 9, 0, 0, 0) := by decide +kernel
theorem k132_9 : icode MCl 132 9 = some (.invokestatic 149, 12, 94, 925, 0) := by decide +kernel
theorem k132_12 : icode MCl 132 12 = some (.ifCond .eq 12, 15, 24, 0, 0) := by decide +kernel
theorem k132_15 : icode MCl 132 15 = some (.iload_n 3, 16, 0, 0, 0) := by decide +kernel
theorem k132_16 : icode MCl 132 16 = some (.iconst 0, 17, 0, 0, 0) := by decide +kernel
theorem k132_17 : icode MCl 132 17 = some (.iconst 1, 18, 0, 0, 1) := by decide +kernel
theorem k132_18 : icode MCl 132 18 = some (.invokestatic 73, 21, 59, 855, 0) := by decide +kernel
theorem k132_21 : icode MCl 132 21 = some (.ifCond .ne 5, 24, 26, 0, 0) := by decide +kernel
theorem k132_24 : icode MCl 132 24 = some (.iconst (-1), 25, 0, 0, (-1)) := by decide +kernel
theorem k132_25 : icode MCl 132 25 = some (.ireturn, 26, 0, 0, 0) := by decide +kernel
theorem k132_26 : icode MCl 132 26 = some (.aload_n 0, 27, 0, 0, 0) := by decide +kernel
theorem k132_27 : icode MCl 132 27 = some (.getfield 34, 30, 814, 789, 1) := by decide +kernel
theorem k132_30 : icode MCl 132 30 = some (.iload_n 1, 31, 0, 0, 0) := by decide +kernel
theorem k132_31 : icode MCl 132 31 = some (.iaload, 32, 0, 0, 0) := by decide +kernel
theorem k132_32 : icode MCl 132 32 = some (.istore 4, 34, 0, 0, 0) := by decide +kernel
theorem k132_34 : icode MCl 132 34 = some (.iload_n 1, 35, 0, 0, 0) := by decide +kernel
theorem k132_35 : icode MCl 132 35 = some (.istore 5, 37, 0, 0, 0) := by decide +kernel
theorem k132_37 : icode MCl 132 37 = some (.aload_n 0, 38, 0, 0, 0) := by decide +kernel
theorem k132_38 : icode MCl 132 38 = some (.getfield 37, 41, 815, 790, 1) := by decide +kernel
theorem k132_41 : icode MCl 132 41 = some (.iload 5, 43, 0, 0, 0) := by decide +kernel
theorem k132_43 : icode MCl 132 43 = some (.iaload, 44, 0, 0, 0) := by decide +kernel
theorem k132_44 : icode MCl 132 44 = some (.iload 5, 46, 0, 0, 0) := by decide +kernel
theorem k132_46 : icode MCl 132 46 = some (.if_icmp .eq 32, 49, 78, 0, 0) := by decide +kernel
theorem k132_49 : icode MCl 132 49 = some (.iload 4, 51, 0, 0, 0) := by decide +kernel
theorem k132_51 : icode MCl 132 51 = some (.aload_n 0, 52, 0, 0, 0) := by decide +kernel
theorem k132_52 : icode MCl 132 52 = some (.getfield 34, 55, 814, 789, 1) := by decide +kernel
theorem k132_55 : icode MCl 132 55 = some (.aload_n 0, 56, 0, 0, 0) := by decide +kernel
theorem k132_56 : icode MCl 132 56 = some (.getfield 37, 59, 815, 790, 1) := by decide +kernel
theorem k132_59 : icode MCl 132 59 = some (.iload 5, 61, 0, 0, 0) := by decide +kernel
theorem k132_61 : icode MCl 132 61 = some (.iaload, 62, 0, 0, 0) := by decide +kernel
theorem k132_62 : icode MCl 132 62 = some (.iaload, 63, 0, 0, 0) := by decide +kernel
theorem k132_63 : icode MCl 132 63 = some (.iadd, 64, 0, 0, 0) := by decide +kernel
theorem k132_64 : icode MCl 132 64 = some (.istore 4, 66, 0, 0, 0) := by decide +kernel
theorem k132_66 : icode MCl 132 66 = some (.aload_n 0, 67, 0, 0, 0) := by decide +kernel
theorem k132_67 : icode MCl 132 67 = some (.getfield 37, 70, 815, 790, 1) := by decide +kernel
theorem k132_70 : icode MCl 132 70 = some (.iload 5, 72, 0, 0, 0) := by decide +kernel
theorem k132_72 : icode MCl 132 72 = some (.iaload, 73, 0, 0, 0) := by decide +kernel
theorem k132_73 : icode MCl 132 73 = some (.istore 5, 75, 0, 0, 0) := by decide +kernel
theorem k132_75 : icode MCl 132 75 = some (.goto (-38), 78, 37, 0, 0) := by decide +kernel
theorem k132_78 : icode MCl 132 78 = some (.iload_n 3, 79, 0, 0, 0) := by decide +kernel
theorem k132_79 : icode MCl 132 79 = some (.ifCond .ne 12, 82, 91, 0, 0) := by decide +kernel
theorem k132_82 : icode MCl 132 82 = some (.aload_n 0, 83, 0, 0, 0) := by decide +kernel
theorem k132_83 : icode MCl 132 83 = some (.iload_n 1, 84, 0, 0, 0) := by decide +kernel
theorem k132_84 : icode MCl 132 84 = some (.iload_n 2, 85, 0, 0, 0) := by decide +kernel
theorem k132_85 : icode MCl 132 85 = some (.invokevirtual 182, 88, 131, 980, 0) := by decide +kernel
theorem k132_88 : icode MCl 132 88 = some (.goto 5, 91, 93, 0, 0) := by decide +kernel
theorem k132_91 : icode MCl 132 91 = some (.iload 4, 93, 0, 0, 0) := by decide +kernel
theorem k132_93 : icode MCl 132 93 = some (.ireturn, 94, 0, 0, 0) := by decide +kernel
theorem k133_0 : icode MCl 133 0 = some (.aload_n 0, 1, 0, 0, 0) := by decide +kernel
theorem k133_1 : icode MCl 133 1 = some (.getfield 15, 4, 101, 118, 0) := by decide +kernel
theorem k133_4 : icode MCl 133 4 = some (.ifCond .ne 12, 7, 16, 0, 0) := by decide +kernel
theorem k133_7 : icode MCl 133 7 = some (.aload_n 0, 8, 0, 0, 0) := by decide +kernel
theorem k133_8 : icode MCl 133 8 = some (.getfield 9, 11, 100, 116, 0) := by decide +kernel
theorem k133_11 : icode MCl 133 11 = some (.iload_n 2, 12, 0, 0, 0) := by decide +kernel
theorem k133_12 : icode MCl 133 12 = some (.isub, 13, 0, 0, 0) := by decide +kernel
theorem k133_13 : icode MCl 133 13 = some (.goto 4, 16, 17, 0, 0) := by decide +kernel
theorem k133_16 : icode MCl 133 16 = some (.iconst 0, 17, 0, 0, 0) := by decide +kernel
theorem k133_17 : icode MCl 133 17 = some (.istore_n 3, 18, 0, 0, 0) := by decide +kernel
theorem k133_18 : icode MCl 133 18 = some (.aload_n 0, 19, 0, 0, 0) := by decide +kernel
theorem k133_19 : icode MCl 133 19 = some (.getfield 24, 22, 104, 127, 0) := by decide +kernel
theorem k133_22 : icode MCl 133 22 = some (.ifCond .le 19, 25, 41, 0, 0) := by decide +kernel
theorem k133_25 : icode MCl 133 25 = some (.aload_n 1, 26, 0, 0, 0) := by decide +kernel
theorem k133_26 : icode MCl 133 26 = some (.aload_n 0, 27, 0, 0, 0) := by decide +kernel
theorem k133_27 : icode MCl 133 27 = some (.getfield 18, 30, 102, 121, 0) := by decide +kernel
theorem k133_30 : icode MCl 133 30 = some (.invokevirtual 34, 33, 42, 533, 0) := by decide +kernel
theorem k133_33 : icode MCl 133 33 = some (.aload_n 0, 34, 0, 0, 0) := by decide +kernel
theorem k133_34 : icode MCl 133 34 = some (.getfield 24, 37, 104, 127, 0) := by decide +kernel
theorem k133_37 : icode MCl 133 37 = some (.isub, 38, 0, 0, 0) := by decide +kernel
theorem k133_38 : icode MCl 133 38 = some (.goto 4, 41, 42, 0, 0) := by decide +kernel
theorem k133_41 : icode MCl 133 41 = some (.iconst 0, 42, 0, 0, 0) := by decide +kernel
theorem k133_42 : icode MCl 133 42 = some (.istore 4, 44, 0, 0, 0) := by decide +kernel
theorem k133_44 : icode MCl 133 44 = some (.iload_n 3, 45, 0, 0, 0) := by decide +kernel
theorem k133_45 : icode MCl 133 45 = some (.iload 4, 47, 0, 0, 0) := by decide +kernel
theorem k133_47 : icode MCl 133 47 = some (.isub, 48, 0, 0, 0) := by decide +kernel
theorem k133_48 : icode MCl 133 48 = some (.aload_n 1, 49, 0, 0, 0) := by decide +kernel
theorem k133_49 : icode MCl 133 49 = some (.aload_n 0, 50, 0, 0, 0) := by decide +kernel
theorem k133_50 : icode MCl 133 50 = some (.getfield 18, 53, 102, 121, 0) := by decide +kernel
theorem k133_53 : icode MCl 133 53 = some (.invokevirtual 63, 56, 128, 615, 0) := by decide +kernel
theorem k133_56 : icode MCl 133 56 = some (.iadd, 57, 0, 0, 0) := by decide +kernel
theorem k133_57 : icode MCl 133 57 = some (.ireturn, 58, 0, 0, 0) := by decide +kernel
theorem k134_0 : icode MCl 134 0 = some (.aload_n 1, 1, 0, 0, 0) := by decide +kernel
theorem k134_1 : icode MCl 134 1 = some (.aload_n 0, 2, 0, 0, 0) := by decide +kernel
theorem k134_2 : icode MCl 134 2 = some (.getfield 18, 5, 102, 121, 0) := by decide +kernel
theorem k134_5 : icode MCl 134 5 = some (.invokevirtual 60, 8, 127, 624, 0) := by decide +kernel
theorem k134_8 : icode MCl 134 8 = some (.istore_n 2, 9, 0, 0, 0) := by decide +kernel
theorem k134_9 : icode MCl 134 9 = some (.aload_n 0, 10, 0, 0, 0) := by decide +kernel
theorem k134_10 : icode MCl 134 10 = some (.getfield 24, 13, 104, 127, 0) := by decide +kernel
theorem k134_13 : icode MCl 134 13 = some (.ifCond .le 16, 16, 29, 0, 0) := by decide +kernel
theorem k134_16 : icode MCl 134 16 = some (.iload_n 2, 17, 0, 0, 0) := by decide +kernel
theorem k134_17 : icode MCl 134 17 = some (.iconst 1, 18, 0, 0, 1) := by decide +kernel
theorem k134_18 : icode MCl 134 18 = some (.aload_n 0, 19, 0, 0, 0) := by decide +kernel
theorem k134_19 : icode MCl 134 19 = some (.getfield 18, 22, 102, 121, 0) := by decide +kernel
theorem k134_22 : icode MCl 134 22 = some (.ishl, 23, 0, 0, 0) := by decide +kernel
theorem k134_23 : icode MCl 134 23 = some (.iconst (-1), 24, 0, 0, (-1)) := by decide +kernel
theorem k134_24 : icode MCl 134 24 = some (.ixor, 25, 0, 0, 0) := by decide +kernel
theorem k134_25 : icode MCl 134 25 = some (.iand, 26, 0, 0, 0) := by decide +kernel
theorem k134_26 : icode MCl 134 26 = some (.goto 4, 29, 30, 0, 0) := by decide +kernel
theorem k134_29 : icode MCl 134 29 = some (.iload_n 2, 30, 0, 0, 0) := by decide +kernel
theorem k134_30 : icode MCl 134 30 = some (.ireturn, 31, 0, 0, 0) := by decide +kernel
theorem k135_0 : icode MCl 135 0 = some (.aload_n 1, 1, 0, 0, 0) := by decide +kernel
theorem k135_1 : icode MCl 135 1 = some (.aload_n 2, 2, 0, 0, 0) := by decide +kernel
theorem k135_2 : icode MCl 135 2 = some (.invokevirtual 58, 5, 134, 620, 0) := by decide +kernel
theorem k135_5 : icode MCl 135 5 = some (.aload_n 0, 6, 0, 0, 0) := by decide +kernel
theorem k135_6 : icode MCl 135 6 = some (.getfield 29, 9, 204, 148, 0) := by decide +kernel
theorem k135_9 : icode MCl 135 9 = some (.iand, 10, 0, 0, 0) := by decide +kernel
theorem k135_10 : icode MCl 135 10 = some (.ireturn, 11, 0, 0, 0) := by decide +kernel
theorem k136_0 : icode MCl 136 0 = some (.aload_n 0, 1, 0, 0, 0) := by decide +kernel
theorem k136_1 : icode MCl 136 1 = some (.getfield 35, 4, 703, 412, 1) := by decide +kernel
theorem k136_4 : icode MCl 136 4 = some (.iload_n 1, 5, 0, 0, 0) := by decide +kernel
theorem k136_5 : icode MCl 136 5 = some (.invokevirtual 114, 8, 82, 478, 0) := by decide +kernel
theorem k136_8 : icode MCl 136 8 = some (.ifCond .eq 12, 11, 20, 0, 0) := by decide +kernel
theorem k136_11 : icode MCl 136 11 = some (.iload_n 2, 12, 0, 0, 0) := by decide +kernel
theorem k136_12 : icode MCl 136 12 = some (.iconst 0, 13, 0, 0, 0) := by decide +kernel
theorem k136_13 : icode MCl 136 13 = some (.iconst 1, 14, 0, 0, 1) := by decide +kernel
theorem k136_14 : icode MCl 136 14 = some (.invokestatic 86, 17, 22, 439, 0) := by decide +kernel
theorem k136_17 : icode MCl 136 17 = some (.ifCond .ne 5, 20, 22, 0, 0) := by decide +kernel
theorem k136_20 : icode MCl 136 20 = some (.iconst (-1), 21, 0, 0, (-1)) := by decide +kernel
theorem k136_21 : icode MCl 136 21 = some (.ireturn, 22, 0, 0, 0) := by decide +kernel
theorem k136_22 : icode MCl 136 22 = some (.aload_n 0, 23, 0, 0, 0) := by decide +kernel
theorem k136_23 : icode MCl 136 23 = some (.getfield 35, 26, 703, 412, 1) := by decide +kernel
theorem k136_26 : icode MCl 136 26 = some (.iload_n 1, 27, 0, 0, 0) := by decide +kernel
theorem k136_27 : icode MCl 136 27 = some (.invokevirtual 115, 30, 30, 482, 0) := by decide +kernel
theorem k136_30 : icode MCl 136 30 = some (.astore_n 3, 31, 0, 0, 0) := by decide +kernel
theorem k136_31 : icode MCl 136 31 = some (.aload_n 3, 32, 0, 0, 0) := by decide +kernel
theorem k136_32 : icode MCl 136 32 = some (.getfield 125, 35, 101, 119, 0) := by decide +kernel
theorem k136_35 : icode MCl 136 35 = some (.iconst 2, 36, 0, 0, 2) := by decide +kernel
theorem k136_36 : icode MCl 136 36 = some (.if_icmp .ne 6, 39, 42, 0, 0) := by decide +kernel
theorem k136_39 : icode MCl 136 39 = some (.bipush (-2), 41, 0, 0, (-2)) := by decide +kernel
theorem k136_41 : icode MCl 136 41 = some (.ireturn, 42, 0, 0, 0) := by decide +kernel
theorem k136_42 : icode MCl 136 42 = some (.aload_n 3, 43, 0, 0, 0) := by decide +kernel
theorem k136_43 : icode MCl 136 43 = some (.aload_n 0, 44, 0, 0, 0) := by decide +kernel
theorem k136_44 : icode MCl 136 44 = some (.getfield 28, 47, 702, 411, 1) := by decide +kernel
theorem k136_47 : icode MCl 136 47 = some (.aload_n 0, 48, 0, 0, 0) := by decide +kernel
theorem k136_48 : icode MCl 136 48 = some (.getfield 35, 51, 703, 412, 1) := by decide +kernel
theorem k136_51 : icode MCl 136 51 = some (.invokevirtual 167, 54, 116, 563, 0) := by decide +kernel
theorem k136_54 : icode MCl 136 54 = some (.invokevirtual 183, 57, 133, 611, 0) := by decide +kernel
theorem k136_57 : icode MCl 136 57 = some (.istore 4, 59, 0, 0, 0) := by decide +kernel
theorem k136_59 : icode MCl 136 59 = some (.aload_n 0, 60, 0, 0, 0) := by decide +kernel
theorem k136_60 : icode MCl 136 60 = some (.getfield 35, 63, 703, 412, 1) := by decide +kernel
theorem k136_63 : icode MCl 136 63 = some (.aload_n 3, 64, 0, 0, 0) := by decide +kernel
theorem k136_64 : icode MCl 136 64 = some (.aload_n 0, 65, 0, 0, 0) := by decide +kernel
theorem k136_65 : icode MCl 136 65 = some (.getfield 28, 68, 702, 411, 1) := by decide +kernel
theorem k136_68 : icode MCl 136 68 = some (.invokevirtual 186, 71, 135, 616, 0) := by decide +kernel
theorem k136_71 : icode MCl 136 71 = some (.ifCond .ne 11, 74, 82, 0, 0) := by decide +kernel
theorem k136_74 : icode MCl 136 74 = some (.iload 4, 76, 0, 0, 0) := by decide +kernel
theorem k136_76 : icode MCl 136 76 = some (.sipush 240, 79, 0, 0, 240) := by decide +kernel
theorem k136_79 : icode MCl 136 79 = some (.if_icmp .le 6, 82, 85, 0, 0) := by decide +kernel
theorem k136_82 : icode MCl 136 82 = some (.bipush (-4), 84, 0, 0, (-4)) := by decide +kernel
theorem k136_84 : icode MCl 136 84 = some (.ireturn, 85, 0, 0, 0) := by decide +kernel
theorem k136_85 : icode MCl 136 85 = some (.iload_n 2, 86, 0, 0, 0) := by decide +kernel
theorem k136_86 : icode MCl 136 86 = some (.ifCond .ne 8, 89, 94, 0, 0) := by decide +kernel
theorem k136_89 : icode MCl 136 89 = some (.iload 4, 91, 0, 0, 0) := by decide +kernel
theorem k136_91 : icode MCl 136 91 = some (.goto 18, 94, 109, 0, 0) := by decide +kernel
theorem k136_94 : icode MCl 136 94 = some (.aload_n 0, 95, 0, 0, 0) := by decide +kernel
theorem k136_95 : icode MCl 136 95 = some (.getfield 28, 98, 702, 411, 1) := by decide +kernel
theorem k136_98 : icode MCl 136 98 = some (.aload_n 3, 99, 0, 0, 0) := by decide +kernel
theorem k136_99 : icode MCl 136 99 = some (.getfield 128, 102, 102, 122, 0) := by decide +kernel
theorem k136_102 : icode MCl 136 102 = some (.aload_n 3, 103, 0, 0, 0) := by decide +kernel
theorem k136_103 : icode MCl 136 103 = some (.getfield 131, 106, 103, 125, 0) := by decide +kernel
theorem k136_106 : icode MCl 136 106 = some (.invokevirtual 177, 109, 126, 588, 0) := by decide +kernel
theorem k136_109 : icode MCl 136 109 = some (.ireturn, 110, 0, 0, 0) := by decide +kernel
theorem k137_0 : icode MCl 137 0 = some (.iconst 0, 1, 0, 0, 0) := by decide +kernel
theorem k137_1 : icode MCl 137 1 = some (.istore_n 1, 2, 0, 0, 0) := by decide +kernel
theorem k137_2 : icode MCl 137 2 = some (.iload_n 1, 3, 0, 0, 0) := by decide +kernel
theorem k137_3 : icode MCl 137 3 = some (.bipush 39, 5, 0, 0, 39) := by decide +kernel
theorem k137_5 : icode MCl 137 5 = some (.if_icmp .ge 21, 8, 26, 0, 0) := by decide +kernel
theorem k137_8 : icode MCl 137 8 = some (.aload_n 0, 9, 0, 0, 0) := by decide +kernel
theorem k137_9 : icode MCl 137 9 = some (.getfield 43, 12, 817, 792, 1) := by decide +kernel
theorem k137_12 : icode MCl 137 12 = some (.iload_n 1, 13, 0, 0, 0) := by decide +kernel
theorem k137_13 : icode MCl 137 13 = some (.aload_n 0, 14, 0, 0, 0) := by decide +kernel
theorem k137_14 : icode MCl 137 14 = some (.getfield 40, 17, 816, 791, 1) := by decide +kernel
theorem k137_17 : icode MCl 137 17 = some (.iload_n 1, 18, 0, 0, 0) := by decide +kernel
theorem k137_18 : icode MCl 137 18 = some (.iaload, 19, 0, 0, 0) := by decide +kernel
theorem k137_19 : icode MCl 137 19 = some (.iastore, 20, 0, 0, 0) := by decide +kernel
theorem k137_20 : icode MCl 137 20 = some (.iinc 1 1, 23, 0, 0, 1) := by decide +kernel
theorem k137_23 : icode MCl 137 23 = some (.goto (-21), 26, 2, 0, 0) := by decide +kernel
theorem k137_26 : icode MCl 137 26 = some (.return_, 27, 0, 0, 0) := by decide +kernel
theorem k138_0 : icode MCl 138 0 = some (.aload_n 0, 1, 0, 0, 0) := by decide +kernel
theorem k138_1 : icode MCl 138 1 = some (.iload_n 1, 2, 0, 0, 0) := by decide +kernel
theorem k138_2 : icode MCl 138 2 = some (.invokevirtual 146, 5, 84, 917, 0) := by decide +kernel
theorem k138_5 : icode MCl 138 5 = some (.ifCond .eq 12, 8, 17, 0, 0) := by decide +kernel
theorem k138_8 : icode MCl 138 8 = some (.iload_n 2, 9, 0, 0, 0) := by decide +kernel
theorem k138_9 : icode MCl 138 9 = some (.iconst 0, 10, 0, 0, 0) := by decide +kernel
theorem k138_10 : icode MCl 138 10 = some (.iconst 1, 11, 0, 0, 1) := by decide +kernel
theorem k138_11 : icode MCl 138 11 = some (.invokestatic 73, 14, 59, 855, 0) := by decide +kernel
theorem k138_14 : icode MCl 138 14 = some (.ifCond .ne 5, 17, 19, 0, 0) := by decide +kernel
theorem k138_17 : icode MCl 138 17 = some (.iconst (-1), 18, 0, 0, (-1)) := by decide +kernel
theorem k138_18 : icode MCl 138 18 = some (.ireturn, 19, 0, 0, 0) := by decide +kernel
theorem k138_19 : icode MCl 138 19 = some (.aload_n 0, 20, 0, 0, 0) := by decide +kernel
theorem k138_20 : icode MCl 138 20 = some (.getfield 40, 23, 816, 791, 1) := by decide +kernel
theorem k138_23 : icode MCl 138 23 = some (.iload_n 1, 24, 0, 0, 0) := by decide +kernel
theorem k138_24 : icode MCl 138 24 = some (.iconst 1, 25, 0, 0, 1) := by decide +kernel
theorem k138_25 : icode MCl 138 25 = some (.invokestatic 135, 28, 79, 910, 0) := by decide +kernel
theorem k138_28 : icode MCl 138 28 = some (.iconst 2, 29, 0, 0, 2) := by decide +kernel
theorem k138_29 : icode MCl 138 29 = some (.if_icmp .ne 6, 32, 35, 0, 0) := by decide +kernel
theorem k138_32 : icode MCl 138 32 = some (.bipush (-2), 34, 0, 0, (-2)) := by decide +kernel
theorem k138_34 : icode MCl 138 34 = some (.ireturn, 35, 0, 0, 0) := by decide +kernel
theorem k138_35 : icode MCl 138 35 = some (.aload_n 0, 36, 0, 0, 0) := by decide +kernel
theorem k138_36 : icode MCl 138 36 = some (.invokevirtual 185, 39, 137, 992, 0) := by decide +kernel
theorem k138_39 : icode MCl 138 39 = some (.iconst 1, 40, 0, 0, 1) := by decide +kernel
theorem k138_40 : icode MCl 138 40 = some (.istore_n 3, 41, 0, 0, 0) := by decide +kernel
theorem k138_41 : icode MCl 138 41 = some (.iload_n 3, 42, 0, 0, 0) := by decide +kernel
theorem k138_42 : icode MCl 138 42 = some (.sipush 240, 45, 0, 0, 240) := by decide +kernel
theorem k138_45 : icode MCl 138 45 = some (.if_icmp .gt 48, 48, 93, 0, 0) := by decide +kernel
theorem k138_48 : icode MCl 138 48 = some (.aload_n 0, 49, 0, 0, 0) := by decide +kernel
theorem k138_49 : icode MCl 138 49 = some (.aload_n 0, 50, 0, 0, 0) := by decide +kernel
theorem k138_50 : icode MCl 138 50 = some (.getfield 43, 53, 817, 792, 1) := by decide +kernel
theorem k138_53 : icode MCl 138 53 = some (.invokevirtual 170, 56, 110, 946, 0) := by decide +kernel
theorem k138_56 : icode MCl 138 56 = some (.aload_n 0, 57, 0, 0, 0) := by decide +kernel
theorem k138_57 : icode MCl 138 57 = some (.getfield 43, 60, 817, 792, 1) := by decide +kernel
theorem k138_60 : icode MCl 138 60 = some (.iload_n 1, 61, 0, 0, 0) := by decide +kernel
theorem k138_61 : icode MCl 138 61 = some (.iconst 1, 62, 0, 0, 1) := by decide +kernel
theorem k138_62 : icode MCl 138 62 = some (.invokestatic 135, 65, 79, 910, 0) := by decide +kernel
theorem k138_65 : icode MCl 138 65 = some (.iconst 2, 66, 0, 0, 2) := by decide +kernel
theorem k138_66 : icode MCl 138 66 = some (.if_icmp .ne 21, 69, 87, 0, 0) := by decide +kernel
theorem k138_69 : icode MCl 138 69 = some (.iload_n 2, 70, 0, 0, 0) := by decide +kernel
theorem k138_70 : icode MCl 138 70 = some (.ifCond .ne 7, 73, 77, 0, 0) := by decide +kernel
theorem k138_73 : icode MCl 138 73 = some (.iload_n 3, 74, 0, 0, 0) := by decide +kernel
theorem k138_74 : icode MCl 138 74 = some (.goto 12, 77, 86, 0, 0) := by decide +kernel
theorem k138_77 : icode MCl 138 77 = some (.aload_n 0, 78, 0, 0, 0) := by decide +kernel
theorem k138_78 : icode MCl 138 78 = some (.getfield 43, 81, 817, 792, 1) := by decide +kernel
theorem k138_81 : icode MCl 138 81 = some (.iload_n 1, 82, 0, 0, 0) := by decide +kernel
theorem k138_82 : icode MCl 138 82 = some (.iconst 3, 83, 0, 0, 3) := by decide +kernel
theorem k138_83 : icode MCl 138 83 = some (.invokestatic 135, 86, 79, 910, 0) := by decide +kernel
theorem k138_86 : icode MCl 138 86 = some (.ireturn, 87, 0, 0, 0) := by decide +kernel
theorem k138_87 : icode MCl 138 87 = some (.iinc 3 1, 90, 0, 0, 1) := by decide +kernel
theorem k138_90 : icode MCl 138 90 = some (.goto (-49), 93, 41, 0, 0) := by decide +kernel
theorem k138_93 : icode MCl 138 93 = some (.bipush (-4), 95, 0, 0, (-4)) := by decide +kernel
theorem k138_95 : icode MCl 138 95 = some (.ireturn, 96, 0, 0, 0) := by decide +kernel
theorem k139_0 : icode MCl 139 0 = some (.aload_n 0, 1, 0, 0, 0) := by decide +kernel
theorem k139_1 : icode MCl 139 1 = some (.getfield 28, 4, 702, 411, 1) := by decide +kernel
theorem k139_4 : icode MCl 139 4 = some (.iload_n 1, 5, 0, 0, 0) := by decide +kernel
theorem k139_5 : icode MCl 139 5 = some (.invokevirtual 95, 8, 29, 461, 0) := by decide +kernel
theorem k139_8 : icode MCl 139 8 = some (.ifCond .eq 10, 11, 18, 0, 0) := by decide +kernel
theorem k139_11 : icode MCl 139 11 = some (.iload_n 2, 12, 0, 0, 0) := by decide +kernel
theorem k139_12 : icode MCl 139 12 = some (.invokestatic 140, 15, 89, 487, 0) := by decide +kernel
theorem k139_15 : icode MCl 139 15 = some (.ifCond .ne 5, 18, 20, 0, 0) := by decide +kernel
theorem k139_18 : icode MCl 139 18 = some (.iconst (-1), 19, 0, 0, (-1)) := by decide +kernel
theorem k139_19 : icode MCl 139 19 = some (.ireturn, 20, 0, 0, 0) := by decide +kernel
theorem k139_20 : icode MCl 139 20 = some (.iconst 1, 21, 0, 0, 1) := by decide +kernel
theorem k139_21 : icode MCl 139 21 = some (.istore_n 3, 22, 0, 0, 0) := by decide +kernel
theorem k139_22 : icode MCl 139 22 = some (.iload_n 3, 23, 0, 0, 0) := by decide +kernel
theorem k139_23 : icode MCl 139 23 = some (.sipush 256, 26, 0, 0, 256) := by decide +kernel
theorem k139_26 : icode MCl 139 26 = some (.if_icmp .ge 31, 29, 57, 0, 0) := by decide +kernel
theorem k139_29 : icode MCl 139 29 = some (.iload_n 3, 30, 0, 0, 0) := by decide +kernel
theorem k139_30 : icode MCl 139 30 = some (.invokestatic 163, 33, 88, 558, 0) := by decide +kernel
theorem k139_33 : icode MCl 139 33 = some (.ifCond .eq 18, 36, 51, 0, 0) := by decide +kernel
theorem k139_36 : icode MCl 139 36 = some (.aload_n 0, 37, 0, 0, 0) := by decide +kernel
theorem k139_37 : icode MCl 139 37 = some (.getfield 28, 40, 702, 411, 1) := by decide +kernel
theorem k139_40 : icode MCl 139 40 = some (.iload_n 1, 41, 0, 0, 0) := by decide +kernel
theorem k139_41 : icode MCl 139 41 = some (.iload_n 3, 42, 0, 0, 0) := by decide +kernel
theorem k139_42 : icode MCl 139 42 = some (.invokevirtual 177, 45, 126, 588, 0) := by decide +kernel
theorem k139_45 : icode MCl 139 45 = some (.iload_n 2, 46, 0, 0, 0) := by decide +kernel
theorem k139_46 : icode MCl 139 46 = some (.if_icmp .ne 5, 49, 51, 0, 0) := by decide +kernel
theorem k139_49 : icode MCl 139 49 = some (.iload_n 3, 50, 0, 0, 0) := by decide +kernel
theorem k139_50 : icode MCl 139 50 = some (.ireturn, 51, 0, 0, 0) := by decide +kernel
theorem k139_51 : icode MCl 139 51 = some (.iinc 3 1, 54, 0, 0, 1) := by decide +kernel
theorem k139_54 : icode MCl 139 54 = some (.goto (-32), 57, 22, 0, 0) := by decide +kernel
theorem k139_57 : icode MCl 139 57 = some (.bipush (-4), 59, 0, 0, (-4)) := by decide +kernel
theorem k139_59 : icode MCl 139 59 = some (.ireturn, 60, 0, 0, 0) := by decide +kernel
theorem k140_0 : icode MCl 140 0 = some (.aload_n 0, 1, 0, 0, 0) := by decide +kernel
theorem k140_1 : icode MCl 140 1 = some (.iload_n 1, 2, 0, 0, 0) := by decide +kernel
theorem k140_2 : icode MCl 140 2 = some (.invokevirtual 139, 5, 78, 902, 0) := by decide +kernel
theorem k140_5 : icode MCl 140 5 = some (.ifCond .eq 14, 8, 19, 0, 0) := by decide +kernel
theorem k140_8 : icode MCl 140 8 = some (.iload_n 2, 9, 0, 0, 0) := by decide +kernel
theorem k140_9 : icode MCl 140 9 = some (.ifCond .eq 12, 12, 21, 0, 0) := by decide +kernel
theorem k140_12 : icode MCl 140 12 = some (.iload_n 2, 13, 0, 0, 0) := by decide +kernel
theorem k140_13 : icode MCl 140 13 = some (.invokestatic 149, 16, 94, 925, 0) := by decide +kernel
theorem k140_16 : icode MCl 140 16 = some (.ifCond .ne 5, 19, 21, 0, 0) := by decide +kernel
theorem k140_19 : icode MCl 140 19 = some (.iconst (-1), 20, 0, 0, (-1)) := by decide +kernel
theorem k140_20 : icode MCl 140 20 = some (.ireturn, 21, 0, 0, 0) := by decide +kernel
theorem k140_21 : icode MCl 140 21 = some (.iconst 1, 22, 0, 0, 1) := by decide +kernel
theorem k140_22 : icode MCl 140 22 = some (.istore_n 3, 23, 0, 0, 0) := by decide +kernel
theorem k140_23 : icode MCl 140 23 = some (.iload_n 3, 24, 0, 0, 0) := by decide +kernel
theorem k140_24 : icode MCl 140 24 = some (.sipush 256, 27, 0, 0, 256) := by decide +kernel
theorem k140_27 : icode MCl 140 27 = some (.if_icmp .ge 28, 30, 55, 0, 0) := by decide +kernel
theorem k140_30 : icode MCl 140 30 = some (.iload_n 3, 31, 0, 0, 0) := by decide +kernel
theorem k140_31 : icode MCl 140 31 = some (.invokestatic 149, 34, 94, 925, 0) := by decide +kernel
theorem k140_34 : icode MCl 140 34 = some (.ifCond .eq 15, 37, 49, 0, 0) := by decide +kernel
theorem k140_37 : icode MCl 140 37 = some (.aload_n 0, 38, 0, 0, 0) := by decide +kernel
theorem k140_38 : icode MCl 140 38 = some (.iload_n 1, 39, 0, 0, 0) := by decide +kernel
theorem k140_39 : icode MCl 140 39 = some (.iload_n 3, 40, 0, 0, 0) := by decide +kernel
theorem k140_40 : icode MCl 140 40 = some (.invokevirtual 182, 43, 131, 980, 0) := by decide +kernel
theorem k140_43 : icode MCl 140 43 = some (.iload_n 2, 44, 0, 0, 0) := by decide +kernel
theorem k140_44 : icode MCl 140 44 = some (.if_icmp .ne 5, 47, 49, 0, 0) := by decide +kernel
theorem k140_47 : icode MCl 140 47 = some (.iload_n 3, 48, 0, 0, 0) := by decide +kernel
theorem k140_48 : icode MCl 140 48 = some (.ireturn, 49, 0, 0, 0) := by decide +kernel
theorem k140_49 : icode MCl 140 49 = some (.iinc 3 1, 52, 0, 0, 1) := by decide +kernel
theorem k140_52 : icode MCl 140 52 = some (.goto (-29), 55, 23, 0, 0) := by decide +kernel
theorem k140_55 : icode MCl 140 55 = some (.bipush (-4), 57, 0, 0, (-4)) := by decide +kernel
theorem k140_57 : icode MCl 140 57 = some (.ireturn, 58, 0, 0, 0) := by decide +kernel
theorem k141_0 : icode MCl 141 0 = some (.aload_n 0, 1, 0, 0, 0) := by decide +kernel
theorem k141_1 : icode MCl 141 1 = some (.getfield 28, 4, 702, 411, 1) := by decide +kernel
theorem k141_4 : icode MCl 141 4 = some (.iload_n 1, 5, 0, 0, 0) := by decide +kernel
theorem k141_5 : icode MCl 141 5 = some (.invokevirtual 95, 8, 29, 461, 0) := by decide +kernel
theorem k141_8 : icode MCl 141 8 = some (.ifCond .eq 10, 11, 18, 0, 0) := by decide +kernel
theorem k141_11 : icode MCl 141 11 = some (.iload_n 2, 12, 0, 0, 0) := by decide +kernel
theorem k141_12 : icode MCl 141 12 = some (.invokestatic 140, 15, 89, 487, 0) := by decide +kernel
theorem k141_15 : icode MCl 141 15 = some (.ifCond .ne 5, 18, 20, 0, 0) := by decide +kernel
theorem k141_18 : icode MCl 141 18 = some (.iconst (-1), 19, 0, 0, (-1)) := by decide +kernel
theorem k141_19 : icode MCl 141 19 = some (.ireturn, 20, 0, 0, 0) := by decide +kernel
theorem k141_20 : icode MCl 141 20 = some (.iconst 0, 21, 0, 0, 0) := by decide +kernel
theorem k141_21 : icode MCl 141 21 = some (.istore_n 3, 22, 0, 0, 0) := by decide +kernel
theorem k141_22 : icode MCl 141 22 = some (.iconst 1, 23, 0, 0, 1) := by decide +kernel
theorem k141_23 : icode MCl 141 23 = some (.istore 4, 25, 0, 0, 0) := by decide +kernel
theorem k141_25 : icode MCl 141 25 = some (.iload 4, 27, 0, 0, 0) := by decide +kernel
theorem k141_27 : icode MCl 141 27 = some (.sipush 1024, 30, 0, 0, 1024) := by decide +kernel
theorem k141_30 : icode MCl 141 30 = some (.if_icmp .ge 34, 33, 64, 0, 0) := by decide +kernel
theorem k141_33 : icode MCl 141 33 = some (.iload 4, 35, 0, 0, 0) := by decide +kernel
theorem k141_35 : icode MCl 141 35 = some (.invokestatic 163, 38, 88, 558, 0) := by decide +kernel
theorem k141_38 : icode MCl 141 38 = some (.ifCond .eq 20, 41, 58, 0, 0) := by decide +kernel
theorem k141_41 : icode MCl 141 41 = some (.aload_n 0, 42, 0, 0, 0) := by decide +kernel
theorem k141_42 : icode MCl 141 42 = some (.getfield 28, 45, 702, 411, 1) := by decide +kernel
theorem k141_45 : icode MCl 141 45 = some (.iload_n 1, 46, 0, 0, 0) := by decide +kernel
theorem k141_46 : icode MCl 141 46 = some (.iload 4, 48, 0, 0, 0) := by decide +kernel
theorem k141_48 : icode MCl 141 48 = some (.invokevirtual 177, 51, 126, 588, 0) := by decide +kernel
theorem k141_51 : icode MCl 141 51 = some (.iload_n 2, 52, 0, 0, 0) := by decide +kernel
theorem k141_52 : icode MCl 141 52 = some (.if_icmp .ne 6, 55, 58, 0, 0) := by decide +kernel
theorem k141_55 : icode MCl 141 55 = some (.iinc 3 1, 58, 0, 0, 1) := by decide +kernel
theorem k141_58 : icode MCl 141 58 = some (.iinc 4 1, 61, 0, 0, 1) := by decide +kernel
theorem k141_61 : icode MCl 141 61 = some (.goto (-36), 64, 25, 0, 0) := by decide +kernel
theorem k141_64 : icode MCl 141 64 = some (.iload_n 3, 65, 0, 0, 0) := by decide +kernel
theorem k141_65 : icode MCl 141 65 = some (.ireturn, 66, 0, 0, 0) := by decide +kernel
theorem k142_0 : icode MCl 142 0 = some (.aload_n 0, 1, 0, 0, 0) := by decide +kernel
theorem k142_1 : icode MCl 142 1 = some (.iload_n 1, 2, 0, 0, 0) := by decide +kernel
theorem k142_2 : icode MCl 142 2 = some (.invokevirtual 139, 5, 78, 902, 0) := by decide +kernel
theorem k142_5 : icode MCl 142 5 = some (.ifCond .eq 14, 8, 19, 0, 0) := by decide +kernel
theorem k142_8 : icode MCl 142 8 = some (.iload_n 2, 9, 0, 0, 0) := by decide +kernel
theorem k142_9 : icode MCl 142 9 = some (.ifCond .eq 12, 12, 21, 0, 0) := by decide +kernel
theorem k142_12 : icode MCl 142 12 = some (.iload_n 2, 13, 0, 0, 0) := by decide +kernel
theorem k142_13 : icode MCl 142 13 = some (.invokestatic 149, 16, 94, 925, 0) := by decide +kernel
theorem k142_16 : icode MCl 142 16 = some (.ifCond .ne 5, 19, 21, 0, 0) := by decide +kernel
theorem k142_19 : icode MCl 142 19 = some (.iconst (-1), 20, 0, 0, (-1)) := by decide +kernel
theorem k142_20 : icode MCl 142 20 = some (.ireturn, 21, 0, 0, 0) := by decide +kernel
theorem k142_21 : icode MCl 142 21 = some (.iconst 0, 22, 0, 0, 0) := by decide +kernel
theorem k142_22 : icode MCl 142 22 = some (.istore_n 3, 23, 0, 0, 0) := by decide +kernel
theorem k142_23 : icode MCl 142 23 = some (.iconst 1, 24, 0, 0, 1) := by decide +kernel
theorem k142_24 : icode MCl 142 24 = some (.istore 4, 26, 0, 0, 0) := by decide +kernel
theorem k142_26 : icode MCl 142 26 = some (.iload 4, 28, 0, 0, 0) := by decide +kernel
theorem k142_28 : icode MCl 142 28 = some (.sipush 1024, 31, 0, 0, 1024) := by decide +kernel
theorem k142_31 : icode MCl 142 31 = some (.if_icmp .ge 36, 34, 67, 0, 0) := by decide +kernel
theorem k142_34 : icode MCl 142 34 = some (.iload_n 3, 35, 0, 0, 0) := by decide +kernel
theorem k142_35 : icode MCl 142 35 = some (.iload 4, 37, 0, 0, 0) := by decide +kernel
theorem k142_37 : icode MCl 142 37 = some (.invokestatic 149, 40, 94, 925, 0) := by decide +kernel
theorem k142_40 : icode MCl 142 40 = some (.ifCond .eq 18, 43, 58, 0, 0) := by decide +kernel
theorem k142_43 : icode MCl 142 43 = some (.aload_n 0, 44, 0, 0, 0) := by decide +kernel
theorem k142_44 : icode MCl 142 44 = some (.iload_n 1, 45, 0, 0, 0) := by decide +kernel
theorem k142_45 : icode MCl 142 45 = some (.iload 4, 47, 0, 0, 0) := by decide +kernel
theorem k142_47 : icode MCl 142 47 = some (.invokevirtual 182, 50, 131, 980, 0) := by decide +kernel
theorem k142_50 : icode MCl 142 50 = some (.iload_n 2, 51, 0, 0, 0) := by decide +kernel
theorem k142_51 : icode MCl 142 51 = some (.if_icmp .ne 7, 54, 58, 0, 0) := by decide +kernel
theorem k142_54 : icode MCl 142 54 = some (.iconst 1, 55, 0, 0, 1) := by decide +kernel
theorem k142_55 : icode MCl 142 55 = some (.goto 4, 58, 59, 0, 0) := by decide +kernel
theorem k142_58 : icode MCl 142 58 = some (.iconst 0, 59, 0, 0, 0) := by decide +kernel
theorem k142_59 : icode MCl 142 59 = some (.iadd, 60, 0, 0, 0) := by decide +kernel
theorem k142_60 : icode MCl 142 60 = some (.istore_n 3, 61, 0, 0, 0) := by decide +kernel
theorem k142_61 : icode MCl 142 61 = some (.iinc 4 1, 64, 0, 0, 1) := by decide +kernel
theorem k142_64 : icode MCl 142 64 = some (.goto (-38), 67, 26, 0, 0) := by decide +kernel
theorem k142_67 : icode MCl 142 67 = some (.iload_n 3, 68, 0, 0, 0) := by decide +kernel
theorem k142_68 : icode MCl 142 68 = some (.ireturn, 69, 0, 0, 0) := by decide +kernel
theorem k143_0 : icode MCl 143 0 = some (.iload_n 0, 1, 0, 0, 0) := by decide +kernel
theorem k143_1 : icode MCl 143 1 = some (.iload_n 0, 2, 0, 0, 0) := by decide +kernel
theorem k143_2 : icode MCl 143 2 = some (.iconst 1, 3, 0, 0, 1) := by decide +kernel
theorem k143_3 : icode MCl 143 3 = some (.iushr, 4, 0, 0, 0) := by decide +kernel
theorem k143_4 : icode MCl 143 4 = some (.ldc_w 265, 7, 0, 640, 1431655765) := by decide +kernel
theorem k143_7 : icode MCl 143 7 = some (.iand, 8, 0, 0, 0) := by decide +kernel
theorem k143_8 : icode MCl 143 8 = some (.isub, 9, 0, 0, 0) := by decide +kernel
theorem k143_9 : icode MCl 143 9 = some (.istore_n 0, 10, 0, 0, 0) := by decide +kernel
theorem k143_10 : icode MCl 143 10 = some (.iload_n 0, 11, 0, 0, 0) := by decide +kernel
theorem k143_11 : icode MCl 143 11 = some (.ldc_w 266, 14, 0, 641, 858993459) := by decide +kernel
theorem k143_14 : icode MCl 143 14 = some (.iand, 15, 0, 0, 0) := by decide +kernel
theorem k143_15 : icode MCl 143 15 = some (.iload_n 0, 16, 0, 0, 0) := by decide +kernel
theorem k143_16 : icode MCl 143 16 = some (.iconst 2, 17, 0, 0, 2) := by decide +kernel
theorem k143_17 : icode MCl 143 17 = some (.iushr, 18, 0, 0, 0) := by decide +kernel
theorem k143_18 : icode MCl 143 18 = some (.ldc_w 266, 21, 0, 641, 858993459) := by decide +kernel
theorem k143_21 : icode MCl 143 21 = some (.iand, 22, 0, 0, 0) := by decide +kernel
theorem k143_22 : icode MCl 143 22 = some (.iadd, 23, 0, 0, 0) := by decide +kernel
theorem k143_23 : icode MCl 143 23 = some (.istore_n 0, 24, 0, 0, 0) := by decide +kernel
theorem k143_24 : icode MCl 143 24 = some (.iload_n 0, 25, 0, 0, 0) := by decide +kernel
theorem k143_25 : icode MCl 143 25 = some (.iload_n 0, 26, 0, 0, 0) := by decide +kernel
theorem k143_26 : icode MCl 143 26 = some (.iconst 4, 27, 0, 0, 4) := by decide +kernel
theorem k143_27 : icode MCl 143 27 = some (.iushr, 28, 0, 0, 0) := by decide +kernel
theorem k143_28 : icode MCl 143 28 = some (.iadd, 29, 0, 0, 0) := by decide +kernel
theorem k143_29 : icode MCl 143 29 = some (.ldc_w 267, 32, 0, 642, 252645135) := by decide +kernel
theorem k143_32 : icode MCl 143 32 = some (.iand, 33, 0, 0, 0) := by decide +kernel
theorem k143_33 : icode MCl 143 33 = some (.istore_n 0, 34, 0, 0, 0) := by decide +kernel
theorem k143_34 : icode MCl 143 34 = some (.iload_n 0, 35, 0, 0, 0) := by decide +kernel
theorem k143_35 : icode MCl 143 35 = some (.iload_n 0, 36, 0, 0, 0) := by decide +kernel
theorem k143_36 : icode MCl 143 36 = some (.bipush 8, 38, 0, 0, 8) := by decide +kernel
theorem k143_38 : icode MCl 143 38 = some (.iushr, 39, 0, 0, 0) := by decide +kernel
theorem k143_39 : icode MCl 143 39 = some (.iadd, 40, 0, 0, 0) := by decide +kernel
theorem k143_40 : icode MCl 143 40 = some (.istore_n 0, 41, 0, 0, 0) := by decide +kernel
theorem k143_41 : icode MCl 143 41 = some (.iload_n 0, 42, 0, 0, 0) := by decide +kernel
theorem k143_42 : icode MCl 143 42 = some (.iload_n 0, 43, 0, 0, 0) := by decide +kernel
theorem k143_43 : icode MCl 143 43 = some (.bipush 16, 45, 0, 0, 16) := by decide +kernel
theorem k143_45 : icode MCl 143 45 = some (.iushr, 46, 0, 0, 0) := by decide +kernel
theorem k143_46 : icode MCl 143 46 = some (.iadd, 47, 0, 0, 0) := by decide +kernel
theorem k143_47 : icode MCl 143 47 = some (.istore_n 0, 48, 0, 0, 0) := by decide +kernel
theorem k143_48 : icode MCl 143 48 = some (.iload_n 0, 49, 0, 0, 0) := by decide +kernel
theorem k143_49 : icode MCl 143 49 = some (.bipush 63, 51, 0, 0, 63) := by decide +kernel
theorem k143_51 : icode MCl 143 51 = some (.iand, 52, 0, 0, 0) := by decide +kernel
theorem k143_52 : icode MCl 143 52 = some (.ireturn, 53, 0, 0, 0) := by decide +kernel
theorem k144_0 : icode MCl 144 0 = some (.iload_n 1, 1, 0, 0, 0) := by decide +kernel
theorem k144_1 : icode MCl 144 1 = some (.iconst 0, 2, 0, 0, 0) := by decide +kernel
theorem k144_2 : icode MCl 144 2 = some (.iconst 1, 3, 0, 0, 1) := by decide +kernel
theorem k144_3 : icode MCl 144 3 = some (.invokestatic 86, 6, 22, 439, 0) := by decide +kernel
theorem k144_6 : icode MCl 144 6 = some (.ifCond .ne 5, 9, 11, 0, 0) := by decide +kernel
theorem k144_9 : icode MCl 144 9 = some (.iconst (-1), 10, 0, 0, (-1)) := by decide +kernel
theorem k144_10 : icode MCl 144 10 = some (.ireturn, 11, 0, 0, 0) := by decide +kernel
theorem k144_11 : icode MCl 144 11 = some (.iconst 0, 12, 0, 0, 0) := by decide +kernel
theorem k144_12 : icode MCl 144 12 = some (.istore_n 2, 13, 0, 0, 0) := by decide +kernel
theorem k144_13 : icode MCl 144 13 = some (.iconst 0, 14, 0, 0, 0) := by decide +kernel
theorem k144_14 : icode MCl 144 14 = some (.istore_n 3, 15, 0, 0, 0) := by decide +kernel
theorem k144_15 : icode MCl 144 15 = some (.iload_n 3, 16, 0, 0, 0) := by decide +kernel
theorem k144_16 : icode MCl 144 16 = some (.aload_n 0, 17, 0, 0, 0) := by decide +kernel
theorem k144_17 : icode MCl 144 17 = some (.getfield 35, 20, 703, 412, 1) := by decide +kernel
theorem k144_20 : icode MCl 144 20 = some (.invokevirtual 166, 23, 115, 559, 0) := by decide +kernel
theorem k144_23 : icode MCl 144 23 = some (.if_icmp .ge 72, 26, 95, 0, 0) := by decide +kernel
theorem k144_26 : icode MCl 144 26 = some (.aload_n 0, 27, 0, 0, 0) := by decide +kernel
theorem k144_27 : icode MCl 144 27 = some (.getfield 35, 30, 703, 412, 1) := by decide +kernel
theorem k144_30 : icode MCl 144 30 = some (.iload_n 3, 31, 0, 0, 0) := by decide +kernel
theorem k144_31 : icode MCl 144 31 = some (.invokevirtual 115, 34, 30, 482, 0) := by decide +kernel
theorem k144_34 : icode MCl 144 34 = some (.astore 4, 36, 0, 0, 0) := by decide +kernel
theorem k144_36 : icode MCl 144 36 = some (.aload 4, 38, 0, 0, 0) := by decide +kernel
theorem k144_38 : icode MCl 144 38 = some (.getfield 125, 41, 101, 119, 0) := by decide +kernel
theorem k144_41 : icode MCl 144 41 = some (.iconst 2, 42, 0, 0, 2) := by decide +kernel
theorem k144_42 : icode MCl 144 42 = some (.if_icmp .ne 6, 45, 48, 0, 0) := by decide +kernel
theorem k144_45 : icode MCl 144 45 = some (.goto 44, 48, 89, 0, 0) := by decide +kernel
theorem k144_48 : icode MCl 144 48 = some (.aload 4, 50, 0, 0, 0) := by decide +kernel
theorem k144_50 : icode MCl 144 50 = some (.aload_n 0, 51, 0, 0, 0) := by decide +kernel
theorem k144_51 : icode MCl 144 51 = some (.getfield 28, 54, 702, 411, 1) := by decide +kernel
theorem k144_54 : icode MCl 144 54 = some (.aload_n 0, 55, 0, 0, 0) := by decide +kernel
theorem k144_55 : icode MCl 144 55 = some (.getfield 35, 58, 703, 412, 1) := by decide +kernel
theorem k144_58 : icode MCl 144 58 = some (.invokevirtual 167, 61, 116, 563, 0) := by decide +kernel
theorem k144_61 : icode MCl 144 61 = some (.invokevirtual 183, 64, 133, 611, 0) := by decide +kernel
theorem k144_64 : icode MCl 144 64 = some (.sipush 240, 67, 0, 0, 240) := by decide +kernel
theorem k144_67 : icode MCl 144 67 = some (.if_icmp .le 6, 70, 73, 0, 0) := by decide +kernel
theorem k144_70 : icode MCl 144 70 = some (.bipush (-4), 72, 0, 0, (-4)) := by decide +kernel
theorem k144_72 : icode MCl 144 72 = some (.ireturn, 73, 0, 0, 0) := by decide +kernel
theorem k144_73 : icode MCl 144 73 = some (.iload_n 2, 74, 0, 0, 0) := by decide +kernel
theorem k144_74 : icode MCl 144 74 = some (.aload_n 0, 75, 0, 0, 0) := by decide +kernel
theorem k144_75 : icode MCl 144 75 = some (.getfield 35, 78, 703, 412, 1) := by decide +kernel
theorem k144_78 : icode MCl 144 78 = some (.aload 4, 80, 0, 0, 0) := by decide +kernel
theorem k144_80 : icode MCl 144 80 = some (.aload_n 0, 81, 0, 0, 0) := by decide +kernel
theorem k144_81 : icode MCl 144 81 = some (.getfield 28, 84, 702, 411, 1) := by decide +kernel
theorem k144_84 : icode MCl 144 84 = some (.invokevirtual 186, 87, 135, 616, 0) := by decide +kernel
theorem k144_87 : icode MCl 144 87 = some (.ior, 88, 0, 0, 0) := by decide +kernel
theorem k144_88 : icode MCl 144 88 = some (.istore_n 2, 89, 0, 0, 0) := by decide +kernel
theorem k144_89 : icode MCl 144 89 = some (.iinc 3 1, 92, 0, 0, 1) := by decide +kernel
theorem k144_92 : icode MCl 144 92 = some (.goto (-77), 95, 15, 0, 0) := by decide +kernel
theorem k144_95 : icode MCl 144 95 = some (.iload_n 1, 96, 0, 0, 0) := by decide +kernel
theorem k144_96 : icode MCl 144 96 = some (.ifCond .ne 10, 99, 106, 0, 0) := by decide +kernel
theorem k144_99 : icode MCl 144 99 = some (.iload_n 2, 100, 0, 0, 0) := by decide +kernel
theorem k144_100 : icode MCl 144 100 = some (.invokestatic 190, 103, 143, 637, 0) := by decide +kernel
theorem k144_103 : icode MCl 144 103 = some (.goto 4, 106, 107, 0, 0) := by decide +kernel
theorem k144_106 : icode MCl 144 106 = some (.iload_n 2, 107, 0, 0, 0) := by decide +kernel
theorem k144_107 : icode MCl 144 107 = some (.ireturn, 108, 0, 0, 0) := by decide +kernel
theorem k145_0 : icode MCl 145 0 = some (.iconst 0, 1, 0, 0, 0) := by decide +kernel
theorem k145_1 : icode MCl 145 1 = some (.istore_n 1, 2, 0, 0, 0) := by decide +kernel
theorem k145_2 : icode MCl 145 2 = some (.iload_n 0, 3, 0, 0, 0) := by decide +kernel
theorem k145_3 : icode MCl 145 3 = some (.istore_n 2, 4, 0, 0, 0) := by decide +kernel
theorem k145_4 : icode MCl 145 4 = some (.iload_n 2, 5, 0, 0, 0) := by decide +kernel
theorem k145_5 : icode MCl 145 5 = some (.ifCond .eq 15, 8, 20, 0, 0) := by decide +kernel
theorem k145_8 : icode MCl 145 8 = some (.iinc 1 1, 11, 0, 0, 1) := by decide +kernel
theorem k145_11 : icode MCl 145 11 = some (.iload_n 2, 12, 0, 0, 0) := by decide +kernel
theorem k145_12 : icode MCl 145 12 = some (.iload_n 2, 13, 0, 0, 0) := by decide +kernel
theorem k145_13 : icode MCl 145 13 = some (.iconst 1, 14, 0, 0, 1) := by decide +kernel
theorem k145_14 : icode MCl 145 14 = some (.isub, 15, 0, 0, 0) := by decide +kernel
theorem k145_15 : icode MCl 145 15 = some (.iand, 16, 0, 0, 0) := by decide +kernel
theorem k145_16 : icode MCl 145 16 = some (.istore_n 2, 17, 0, 0, 0) := by decide +kernel
theorem k145_17 : icode MCl 145 17 = some (.goto (-13), 20, 4, 0, 0) := by decide +kernel
theorem k145_20 : icode MCl 145 20 = some (.iload_n 1, 21, 0, 0, 0) := by decide +kernel
theorem k145_21 : icode MCl 145 21 = some (.ireturn, 22, 0, 0, 0) := by decide +kernel
theorem k146_0 : icode MCl 146 0 = some (.aload_n 0, 1, 0, 0, 0) := by decide +kernel
theorem k146_1 : icode MCl 146 1 = some (.invokevirtual 185, 4, 137, 992, 0) := by decide +kernel
theorem k146_4 : icode MCl 146 4 = some (.aload_n 0, 5, 0, 0, 0) := by decide +kernel
theorem k146_5 : icode MCl 146 5 = some (.getfield 43, 8, 817, 792, 1) := by decide +kernel
theorem k146_8 : icode MCl 146 8 = some (.iconst 1, 9, 0, 0, 1) := by decide +kernel
theorem k146_9 : icode MCl 146 9 = some (.dup2, 10, 0, 0, 0) := by decide +kernel
theorem k146_10 : icode MCl 146 10 = some (.iaload, 11, 0, 0, 0) := by decide +kernel
theorem k146_11 : icode MCl 146 11 = some (.iload_n 1, 12, 0, 0, 0) := by decide +kernel
theorem k146_12 : icode MCl 146 12 = some (.iconst (-1), 13, 0, 0, (-1)) := by decide +kernel
theorem k146_13 : icode MCl 146 13 = some (.ixor, 14, 0, 0, 0) := by decide +kernel
theorem k146_14 : icode MCl 146 14 = some (.iand, 15, 0, 0, 0) := by decide +kernel
theorem k146_15 : icode MCl 146 15 = some (.iastore, 16, 0, 0, 0) := by decide +kernel
theorem k146_16 : icode MCl 146 16 = some (.iconst 0, 17, 0, 0, 0) := by decide +kernel
theorem k146_17 : icode MCl 146 17 = some (.istore_n 2, 18, 0, 0, 0) := by decide +kernel
theorem k146_18 : icode MCl 146 18 = some (.iload_n 2, 19, 0, 0, 0) := by decide +kernel
theorem k146_19 : icode MCl 146 19 = some (.sipush 240, 22, 0, 0, 240) := by decide +kernel
theorem k146_22 : icode MCl 146 22 = some (.if_icmp .ge 17, 25, 39, 0, 0) := by decide +kernel
theorem k146_25 : icode MCl 146 25 = some (.aload_n 0, 26, 0, 0, 0) := by decide +kernel
theorem k146_26 : icode MCl 146 26 = some (.aload_n 0, 27, 0, 0, 0) := by decide +kernel
theorem k146_27 : icode MCl 146 27 = some (.getfield 43, 30, 817, 792, 1) := by decide +kernel
theorem k146_30 : icode MCl 146 30 = some (.invokevirtual 170, 33, 110, 946, 0) := by decide +kernel
theorem k146_33 : icode MCl 146 33 = some (.iinc 2 1, 36, 0, 0, 1) := by decide +kernel
theorem k146_36 : icode MCl 146 36 = some (.goto (-18), 39, 18, 0, 0) := by decide +kernel
theorem k146_39 : icode MCl 146 39 = some (.aload_n 0, 40, 0, 0, 0) := by decide +kernel
theorem k146_40 : icode MCl 146 40 = some (.getfield 43, 43, 817, 792, 1) := by decide +kernel
theorem k146_43 : icode MCl 146 43 = some (.invokestatic 174, 46, 111, 957, 0) := by decide +kernel
theorem k146_46 : icode MCl 146 46 = some (.aload_n 0, 47, 0, 0, 0) := by decide +kernel
theorem k146_47 : icode MCl 146 47 = some (.getfield 43, 50, 817, 792, 1) := by decide +kernel
theorem k146_50 : icode MCl 146 50 = some (.iconst 2, 51, 0, 0, 2) := by decide +kernel
theorem k146_51 : icode MCl 146 51 = some (.iaload, 52, 0, 0, 0) := by decide +kernel
theorem k146_52 : icode MCl 146 52 = some (.if_icmp .ne 7, 55, 59, 0, 0) := by decide +kernel
theorem k146_55 : icode MCl 146 55 = some (.iconst 1, 56, 0, 0, 1) := by decide +kernel
theorem k146_56 : icode MCl 146 56 = some (.goto 4, 59, 60, 0, 0) := by decide +kernel
theorem k146_59 : icode MCl 146 59 = some (.iconst 0, 60, 0, 0, 0) := by decide +kernel
theorem k146_60 : icode MCl 146 60 = some (.ireturn, 61, 0, 0, 0) := by decide +kernel
theorem k147_0 : icode MCl 147 0 = some (.iload_n 1, 1, 0, 0, 0) := by decide +kernel
theorem k147_1 : icode MCl 147 1 = some (.iconst 0, 2, 0, 0, 0) := by decide +kernel
theorem k147_2 : icode MCl 147 2 = some (.iconst 1, 3, 0, 0, 1) := by decide +kernel
theorem k147_3 : icode MCl 147 3 = some (.invokestatic 73, 6, 59, 855, 0) := by decide +kernel
theorem k147_6 : icode MCl 147 6 = some (.ifCond .ne 5, 9, 11, 0, 0) := by decide +kernel
theorem k147_9 : icode MCl 147 9 = some (.iconst (-1), 10, 0, 0, (-1)) := by decide +kernel
theorem k147_10 : icode MCl 147 10 = some (.ireturn, 11, 0, 0, 0) := by decide +kernel
theorem k147_11 : icode MCl 147 11 = some (.bipush (-4), 13, 0, 0, (-4)) := by decide +kernel
theorem k147_13 : icode MCl 147 13 = some (.istore_n 2, 14, 0, 0, 0) := by decide +kernel
theorem k147_14 : icode MCl 147 14 = some (.iconst 0, 15, 0, 0, 0) := by decide +kernel
theorem k147_15 : icode MCl 147 15 = some (.istore_n 3, 16, 0, 0, 0) := by decide +kernel
theorem k147_16 : icode MCl 147 16 = some (.iload_n 3, 17, 0, 0, 0) := by decide +kernel
theorem k147_17 : icode MCl 147 17 = some (.aload_n 0, 18, 0, 0, 0) := by decide +kernel
theorem k147_18 : icode MCl 147 18 = some (.getfield 40, 21, 816, 791, 1) := by decide +kernel
theorem k147_21 : icode MCl 147 21 = some (.iconst 1, 22, 0, 0, 1) := by decide +kernel
theorem k147_22 : icode MCl 147 22 = some (.iaload, 23, 0, 0, 0) := by decide +kernel
theorem k147_23 : icode MCl 147 23 = some (.if_icmp .gt 65, 26, 88, 0, 0) := by decide +kernel
theorem k147_26 : icode MCl 147 26 = some (.iload_n 3, 27, 0, 0, 0) := by decide +kernel
theorem k147_27 : icode MCl 147 27 = some (.aload_n 0, 28, 0, 0, 0) := by decide +kernel
theorem k147_28 : icode MCl 147 28 = some (.getfield 40, 31, 816, 791, 1) := by decide +kernel
theorem k147_31 : icode MCl 147 31 = some (.iconst 1, 32, 0, 0, 1) := by decide +kernel
theorem k147_32 : icode MCl 147 32 = some (.iaload, 33, 0, 0, 0) := by decide +kernel
theorem k147_33 : icode MCl 147 33 = some (.iconst (-1), 34, 0, 0, (-1)) := by decide +kernel
theorem k147_34 : icode MCl 147 34 = some (.ixor, 35, 0, 0, 0) := by decide +kernel
theorem k147_35 : icode MCl 147 35 = some (.iand, 36, 0, 0, 0) := by decide +kernel
theorem k147_36 : icode MCl 147 36 = some (.ifCond .ne 24, 39, 60, 0, 0) := by decide +kernel
theorem k147_39 : icode MCl 147 39 = some (.iload_n 2, 40, 0, 0, 0) := by decide +kernel
theorem k147_40 : icode MCl 147 40 = some (.bipush (-4), 42, 0, 0, (-4)) := by decide +kernel
theorem k147_42 : icode MCl 147 42 = some (.if_icmp .eq 14, 45, 56, 0, 0) := by decide +kernel
theorem k147_45 : icode MCl 147 45 = some (.iload_n 3, 46, 0, 0, 0) := by decide +kernel
theorem k147_46 : icode MCl 147 46 = some (.invokestatic 188, 49, 145, 1008, 0) := by decide +kernel
theorem k147_49 : icode MCl 147 49 = some (.iload_n 2, 50, 0, 0, 0) := by decide +kernel
theorem k147_50 : icode MCl 147 50 = some (.invokestatic 188, 53, 145, 1008, 0) := by decide +kernel
theorem k147_53 : icode MCl 147 53 = some (.if_icmp .ge 7, 56, 60, 0, 0) := by decide +kernel
theorem k147_56 : icode MCl 147 56 = some (.iconst 1, 57, 0, 0, 1) := by decide +kernel
theorem k147_57 : icode MCl 147 57 = some (.goto 4, 60, 61, 0, 0) := by decide +kernel
theorem k147_60 : icode MCl 147 60 = some (.iconst 0, 61, 0, 0, 0) := by decide +kernel
theorem k147_61 : icode MCl 147 61 = some (.istore 4, 63, 0, 0, 0) := by decide +kernel
theorem k147_63 : icode MCl 147 63 = some (.iload 4, 65, 0, 0, 0) := by decide +kernel
theorem k147_65 : icode MCl 147 65 = some (.ifCond .eq 15, 68, 80, 0, 0) := by decide +kernel
theorem k147_68 : icode MCl 147 68 = some (.aload_n 0, 69, 0, 0, 0) := by decide +kernel
theorem k147_69 : icode MCl 147 69 = some (.iload_n 3, 70, 0, 0, 0) := by decide +kernel
theorem k147_70 : icode MCl 147 70 = some (.invokevirtual 191, 73, 146, 1011, 0) := by decide +kernel
theorem k147_73 : icode MCl 147 73 = some (.ifCond .eq 7, 76, 80, 0, 0) := by decide +kernel
theorem k147_76 : icode MCl 147 76 = some (.iload_n 3, 77, 0, 0, 0) := by decide +kernel
theorem k147_77 : icode MCl 147 77 = some (.goto 4, 80, 81, 0, 0) := by decide +kernel
theorem k147_80 : icode MCl 147 80 = some (.iload_n 2, 81, 0, 0, 0) := by decide +kernel
theorem k147_81 : icode MCl 147 81 = some (.istore_n 2, 82, 0, 0, 0) := by decide +kernel
theorem k147_82 : icode MCl 147 82 = some (.iinc 3 1, 85, 0, 0, 1) := by decide +kernel
theorem k147_85 : icode MCl 147 85 = some (.goto (-69), 88, 16, 0, 0) := by decide +kernel
theorem k147_88 : icode MCl 147 88 = some (.iload_n 2, 89, 0, 0, 0) := by decide +kernel
theorem k147_89 : icode MCl 147 89 = some (.bipush (-4), 91, 0, 0, (-4)) := by decide +kernel
theorem k147_91 : icode MCl 147 91 = some (.if_icmp .ne 8, 94, 99, 0, 0) := by decide +kernel
theorem k147_94 : icode MCl 147 94 = some (.bipush (-4), 96, 0, 0, (-4)) := by decide +kernel
theorem k147_96 : icode MCl 147 96 = some (.goto 15, 99, 111, 0, 0) := by decide +kernel
theorem k147_99 : icode MCl 147 99 = some (.iload_n 1, 100, 0, 0, 0) := by decide +kernel
theorem k147_100 : icode MCl 147 100 = some (.ifCond .ne 10, 103, 110, 0, 0) := by decide +kernel
theorem k147_103 : icode MCl 147 103 = some (.iload_n 2, 104, 0, 0, 0) := by decide +kernel
theorem k147_104 : icode MCl 147 104 = some (.invokestatic 188, 107, 145, 1008, 0) := by decide +kernel
theorem k147_107 : icode MCl 147 107 = some (.goto 4, 110, 111, 0, 0) := by decide +kernel
theorem k147_110 : icode MCl 147 110 = some (.iload_n 2, 111, 0, 0, 0) := by decide +kernel
theorem k147_111 : icode MCl 147 111 = some (.ireturn, 112, 0, 0, 0) := by decide +kernel
theorem k148_0 : icode MCl 148 0 = some (.aload_n 0, 1, 0, 0, 0) := by decide +kernel
theorem k148_1 : icode MCl 148 1 = some (.iload_n 2, 2, 0, 0, 0) := by decide +kernel
theorem k148_2 : icode MCl 148 2 = some (.invokevirtual 32, 5, 30, 341, 0) := by decide +kernel
theorem k148_5 : icode MCl 148 5 = some (.astore_n 3, 6, 0, 0, 0) := by decide +kernel
theorem k148_6 : icode MCl 148 6 = some (.aload_n 3, 7, 0, 0, 0) := by decide +kernel
theorem k148_7 : icode MCl 148 7 = some (.getfield 62, 10, 101, 120, 0) := by decide +kernel
theorem k148_10 : icode MCl 148 10 = some (.iconst 1, 11, 0, 0, 1) := by decide +kernel
theorem k148_11 : icode MCl 148 11 = some (.if_icmp .ne 22, 14, 33, 0, 0) := by decide +kernel
theorem k148_14 : icode MCl 148 14 = some (.aload_n 0, 15, 0, 0, 0) := by decide +kernel
theorem k148_15 : icode MCl 148 15 = some (.iload_n 1, 16, 0, 0, 0) := by decide +kernel
theorem k148_16 : icode MCl 148 16 = some (.invokevirtual 32, 19, 30, 341, 0) := by decide +kernel
theorem k148_19 : icode MCl 148 19 = some (.aload_n 3, 20, 0, 0, 0) := by decide +kernel
theorem k148_20 : icode MCl 148 20 = some (.getfield 65, 23, 102, 123, 0) := by decide +kernel
theorem k148_23 : icode MCl 148 23 = some (.invokevirtual 68, 26, 75, 470, 0) := by decide +kernel
theorem k148_26 : icode MCl 148 26 = some (.ifCond .eq 7, 29, 33, 0, 0) := by decide +kernel
theorem k148_29 : icode MCl 148 29 = some (.iconst 1, 30, 0, 0, 1) := by decide +kernel
theorem k148_30 : icode MCl 148 30 = some (.goto 4, 33, 34, 0, 0) := by decide +kernel
theorem k148_33 : icode MCl 148 33 = some (.iconst 0, 34, 0, 0, 0) := by decide +kernel
theorem k148_34 : icode MCl 148 34 = some (.ireturn, 35, 0, 0, 0) := by decide +kernel
theorem k149_0 : icode MCl 149 0 = some (.aload_n 0, 1, 0, 0, 0) := by decide +kernel
theorem k149_1 : icode MCl 149 1 = some (.getfield 35, 4, 703, 412, 1) := by decide +kernel
theorem k149_4 : icode MCl 149 4 = some (.iload_n 1, 5, 0, 0, 0) := by decide +kernel
theorem k149_5 : icode MCl 149 5 = some (.invokevirtual 114, 8, 82, 478, 0) := by decide +kernel
theorem k149_8 : icode MCl 149 8 = some (.ifCond .eq 19, 11, 27, 0, 0) := by decide +kernel
theorem k149_11 : icode MCl 149 11 = some (.aload_n 0, 12, 0, 0, 0) := by decide +kernel
theorem k149_12 : icode MCl 149 12 = some (.getfield 35, 15, 703, 412, 1) := by decide +kernel
theorem k149_15 : icode MCl 149 15 = some (.iload_n 2, 16, 0, 0, 0) := by decide +kernel
theorem k149_16 : icode MCl 149 16 = some (.invokevirtual 114, 19, 82, 478, 0) := by decide +kernel
theorem k149_19 : icode MCl 149 19 = some (.ifCond .eq 8, 22, 27, 0, 0) := by decide +kernel
theorem k149_22 : icode MCl 149 22 = some (.iload_n 1, 23, 0, 0, 0) := by decide +kernel
theorem k149_23 : icode MCl 149 23 = some (.iload_n 2, 24, 0, 0, 0) := by decide +kernel
theorem k149_24 : icode MCl 149 24 = some (.if_icmp .ne 5, 27, 29, 0, 0) := by decide +kernel
theorem k149_27 : icode MCl 149 27 = some (.iconst (-1), 28, 0, 0, (-1)) := by decide +kernel
theorem k149_28 : icode MCl 149 28 = some (.ireturn, 29, 0, 0, 0) := by decide +kernel
theorem k149_29 : icode MCl 149 29 = some (.aload_n 0, 30, 0, 0, 0) := by decide +kernel
theorem k149_30 : icode MCl 149 30 = some (.getfield 39, 33, 704, 413, 1) := by decide +kernel
theorem k149_33 : icode MCl 149 33 = some (.aload_n 0, 34, 0, 0, 0) := by decide +kernel
theorem k149_34 : icode MCl 149 34 = some (.getfield 35, 37, 703, 412, 1) := by decide +kernel
theorem k149_37 : icode MCl 149 37 = some (.invokevirtual 195, 40, 46, 389, 0) := by decide +kernel
theorem k149_40 : icode MCl 149 40 = some (.iconst 0, 41, 0, 0, 0) := by decide +kernel
theorem k149_41 : icode MCl 149 41 = some (.istore_n 3, 42, 0, 0, 0) := by decide +kernel
theorem k149_42 : icode MCl 149 42 = some (.iload_n 3, 43, 0, 0, 0) := by decide +kernel
theorem k149_43 : icode MCl 149 43 = some (.sipush 240, 46, 0, 0, 240) := by decide +kernel
theorem k149_46 : icode MCl 149 46 = some (.if_icmp .gt 34, 49, 80, 0, 0) := by decide +kernel
theorem k149_49 : icode MCl 149 49 = some (.aload_n 0, 50, 0, 0, 0) := by decide +kernel
theorem k149_50 : icode MCl 149 50 = some (.getfield 39, 53, 704, 413, 1) := by decide +kernel
theorem k149_53 : icode MCl 149 53 = some (.iload_n 1, 54, 0, 0, 0) := by decide +kernel
theorem k149_54 : icode MCl 149 54 = some (.iload_n 2, 55, 0, 0, 0) := by decide +kernel
theorem k149_55 : icode MCl 149 55 = some (.invokevirtual 198, 58, 148, 647, 0) := by decide +kernel
theorem k149_58 : icode MCl 149 58 = some (.ifCond .eq 5, 61, 63, 0, 0) := by decide +kernel
theorem k149_61 : icode MCl 149 61 = some (.iload_n 3, 62, 0, 0, 0) := by decide +kernel
theorem k149_62 : icode MCl 149 62 = some (.ireturn, 63, 0, 0, 0) := by decide +kernel
theorem k149_63 : icode MCl 149 63 = some (.aload_n 0, 64, 0, 0, 0) := by decide +kernel
theorem k149_64 : icode MCl 149 64 = some (.getfield 39, 67, 704, 413, 1) := by decide +kernel
theorem k149_67 : icode MCl 149 67 = some (.aload_n 0, 68, 0, 0, 0) := by decide +kernel
theorem k149_68 : icode MCl 149 68 = some (.getfield 28, 71, 702, 411, 1) := by decide +kernel
theorem k149_71 : icode MCl 149 71 = some (.invokevirtual 153, 74, 104, 524, 0) := by decide +kernel
theorem k149_74 : icode MCl 149 74 = some (.iinc 3 1, 77, 0, 0, 1) := by decide +kernel
theorem k149_77 : icode MCl 149 77 = some (.goto (-35), 80, 42, 0, 0) := by decide +kernel
theorem k149_80 : icode MCl 149 80 = some (.bipush (-4), 82, 0, 0, (-4)) := by decide +kernel
theorem k149_82 : icode MCl 149 82 = some (.ireturn, 83, 0, 0, 0) := by decide +kernel
theorem k150_0 : icode MCl 150 0 = some (.aload_n 0, 1, 0, 0, 0) := by decide +kernel
theorem k150_1 : icode MCl 150 1 = some (.iload_n 1, 2, 0, 0, 0) := by decide +kernel
theorem k150_2 : icode MCl 150 2 = some (.iconst 1, 3, 0, 0, 1) := by decide +kernel
theorem k150_3 : icode MCl 150 3 = some (.invokestatic 135, 6, 79, 910, 0) := by decide +kernel
theorem k150_6 : icode MCl 150 6 = some (.iconst 1, 7, 0, 0, 1) := by decide +kernel
theorem k150_7 : icode MCl 150 7 = some (.if_icmp .ne 32, 10, 39, 0, 0) := by decide +kernel
theorem k150_10 : icode MCl 150 10 = some (.aload_n 0, 11, 0, 0, 0) := by decide +kernel
theorem k150_11 : icode MCl 150 11 = some (.iload_n 2, 12, 0, 0, 0) := by decide +kernel
theorem k150_12 : icode MCl 150 12 = some (.iconst 1, 13, 0, 0, 1) := by decide +kernel
theorem k150_13 : icode MCl 150 13 = some (.invokestatic 135, 16, 79, 910, 0) := by decide +kernel
theorem k150_16 : icode MCl 150 16 = some (.iconst 1, 17, 0, 0, 1) := by decide +kernel
theorem k150_17 : icode MCl 150 17 = some (.if_icmp .ne 22, 20, 39, 0, 0) := by decide +kernel
theorem k150_20 : icode MCl 150 20 = some (.aload_n 0, 21, 0, 0, 0) := by decide +kernel
theorem k150_21 : icode MCl 150 21 = some (.iload_n 1, 22, 0, 0, 0) := by decide +kernel
theorem k150_22 : icode MCl 150 22 = some (.iconst 2, 23, 0, 0, 2) := by decide +kernel
theorem k150_23 : icode MCl 150 23 = some (.invokestatic 135, 26, 79, 910, 0) := by decide +kernel
theorem k150_26 : icode MCl 150 26 = some (.aload_n 0, 27, 0, 0, 0) := by decide +kernel
theorem k150_27 : icode MCl 150 27 = some (.iload_n 2, 28, 0, 0, 0) := by decide +kernel
theorem k150_28 : icode MCl 150 28 = some (.iconst 2, 29, 0, 0, 2) := by decide +kernel
theorem k150_29 : icode MCl 150 29 = some (.invokestatic 135, 32, 79, 910, 0) := by decide +kernel
theorem k150_32 : icode MCl 150 32 = some (.if_icmp .ne 7, 35, 39, 0, 0) := by decide +kernel
theorem k150_35 : icode MCl 150 35 = some (.iconst 1, 36, 0, 0, 1) := by decide +kernel
theorem k150_36 : icode MCl 150 36 = some (.goto 4, 39, 40, 0, 0) := by decide +kernel
theorem k150_39 : icode MCl 150 39 = some (.iconst 0, 40, 0, 0, 0) := by decide +kernel
theorem k150_40 : icode MCl 150 40 = some (.ireturn, 41, 0, 0, 0) := by decide +kernel
theorem k151_0 : icode MCl 151 0 = some (.aload_n 0, 1, 0, 0, 0) := by decide +kernel
theorem k151_1 : icode MCl 151 1 = some (.iload_n 1, 2, 0, 0, 0) := by decide +kernel
theorem k151_2 : icode MCl 151 2 = some (.invokevirtual 146, 5, 84, 917, 0) := by decide +kernel
theorem k151_5 : icode MCl 151 5 = some (.ifCond .eq 16, 8, 21, 0, 0) := by decide +kernel
theorem k151_8 : icode MCl 151 8 = some (.aload_n 0, 9, 0, 0, 0) := by decide +kernel
theorem k151_9 : icode MCl 151 9 = some (.iload_n 2, 10, 0, 0, 0) := by decide +kernel
theorem k151_10 : icode MCl 151 10 = some (.invokevirtual 146, 13, 84, 917, 0) := by decide +kernel
theorem k151_13 : icode MCl 151 13 = some (.ifCond .eq 8, 16, 21, 0, 0) := by decide +kernel
theorem k151_16 : icode MCl 151 16 = some (.iload_n 1, 17, 0, 0, 0) := by decide +kernel
theorem k151_17 : icode MCl 151 17 = some (.iload_n 2, 18, 0, 0, 0) := by decide +kernel
theorem k151_18 : icode MCl 151 18 = some (.if_icmp .ne 5, 21, 23, 0, 0) := by decide +kernel
theorem k151_21 : icode MCl 151 21 = some (.iconst (-1), 22, 0, 0, (-1)) := by decide +kernel
theorem k151_22 : icode MCl 151 22 = some (.ireturn, 23, 0, 0, 0) := by decide +kernel
theorem k151_23 : icode MCl 151 23 = some (.aload_n 0, 24, 0, 0, 0) := by decide +kernel
theorem k151_24 : icode MCl 151 24 = some (.invokevirtual 185, 27, 137, 992, 0) := by decide +kernel
theorem k151_27 : icode MCl 151 27 = some (.iconst 0, 28, 0, 0, 0) := by decide +kernel
theorem k151_28 : icode MCl 151 28 = some (.istore_n 3, 29, 0, 0, 0) := by decide +kernel
theorem k151_29 : icode MCl 151 29 = some (.iload_n 3, 30, 0, 0, 0) := by decide +kernel
theorem k151_30 : icode MCl 151 30 = some (.sipush 240, 33, 0, 0, 240) := by decide +kernel
theorem k151_33 : icode MCl 151 33 = some (.if_icmp .gt 31, 36, 64, 0, 0) := by decide +kernel
theorem k151_36 : icode MCl 151 36 = some (.aload_n 0, 37, 0, 0, 0) := by decide +kernel
theorem k151_37 : icode MCl 151 37 = some (.getfield 43, 40, 817, 792, 1) := by decide +kernel
theorem k151_40 : icode MCl 151 40 = some (.iload_n 1, 41, 0, 0, 0) := by decide +kernel
theorem k151_41 : icode MCl 151 41 = some (.iload_n 2, 42, 0, 0, 0) := by decide +kernel
theorem k151_42 : icode MCl 151 42 = some (.invokestatic 194, 45, 150, 1019, 0) := by decide +kernel
theorem k151_45 : icode MCl 151 45 = some (.ifCond .eq 5, 48, 50, 0, 0) := by decide +kernel
theorem k151_48 : icode MCl 151 48 = some (.iload_n 3, 49, 0, 0, 0) := by decide +kernel
theorem k151_49 : icode MCl 151 49 = some (.ireturn, 50, 0, 0, 0) := by decide +kernel
theorem k151_50 : icode MCl 151 50 = some (.aload_n 0, 51, 0, 0, 0) := by decide +kernel
theorem k151_51 : icode MCl 151 51 = some (.aload_n 0, 52, 0, 0, 0) := by decide +kernel
theorem k151_52 : icode MCl 151 52 = some (.getfield 43, 55, 817, 792, 1) := by decide +kernel
theorem k151_55 : icode MCl 151 55 = some (.invokevirtual 170, 58, 110, 946, 0) := by decide +kernel
theorem k151_58 : icode MCl 151 58 = some (.iinc 3 1, 61, 0, 0, 1) := by decide +kernel
theorem k151_61 : icode MCl 151 61 = some (.goto (-32), 64, 29, 0, 0) := by decide +kernel
theorem k151_64 : icode MCl 151 64 = some (.bipush (-4), 66, 0, 0, (-4)) := by decide +kernel
theorem k151_66 : icode MCl 151 66 = some (.ireturn, 67, 0, 0, 0) := by decide +kernel
theorem k152_0 : icode MCl 152 0 = some (.iconst 0, 1, 0, 0, 0) := by decide +kernel
theorem k152_1 : icode MCl 152 1 = some (.istore_n 2, 2, 0, 0, 0) := by decide +kernel
theorem k152_2 : icode MCl 152 2 = some (.iconst 0, 3, 0, 0, 0) := by decide +kernel
theorem k152_3 : icode MCl 152 3 = some (.istore_n 3, 4, 0, 0, 0) := by decide +kernel
theorem k152_4 : icode MCl 152 4 = some (.iload_n 3, 5, 0, 0, 0) := by decide +kernel
theorem k152_5 : icode MCl 152 5 = some (.aload_n 0, 6, 0, 0, 0) := by decide +kernel
theorem k152_6 : icode MCl 152 6 = some (.getfield 21, 9, 603, 93, 0) := by decide +kernel
theorem k152_9 : icode MCl 152 9 = some (.if_icmp .ge 29, 12, 38, 0, 0) := by decide +kernel
theorem k152_12 : icode MCl 152 12 = some (.iload_n 2, 13, 0, 0, 0) := by decide +kernel
theorem k152_13 : icode MCl 152 13 = some (.aload_n 0, 14, 0, 0, 0) := by decide +kernel
theorem k152_14 : icode MCl 152 14 = some (.iload_n 3, 15, 0, 0, 0) := by decide +kernel
theorem k152_15 : icode MCl 152 15 = some (.invokevirtual 67, 18, 127, 602, 0) := by decide +kernel
theorem k152_18 : icode MCl 152 18 = some (.iload_n 1, 19, 0, 0, 0) := by decide +kernel
theorem k152_19 : icode MCl 152 19 = some (.invokestatic 70, 22, 34, 606, 1) := by decide +kernel
theorem k152_22 : icode MCl 152 22 = some (.ifCond .eq 7, 25, 29, 0, 0) := by decide +kernel
theorem k152_25 : icode MCl 152 25 = some (.iconst 1, 26, 0, 0, 1) := by decide +kernel
theorem k152_26 : icode MCl 152 26 = some (.goto 4, 29, 30, 0, 0) := by decide +kernel
theorem k152_29 : icode MCl 152 29 = some (.iconst 0, 30, 0, 0, 0) := by decide +kernel
theorem k152_30 : icode MCl 152 30 = some (.iadd, 31, 0, 0, 0) := by decide +kernel
theorem k152_31 : icode MCl 152 31 = some (.istore_n 2, 32, 0, 0, 0) := by decide +kernel
theorem k152_32 : icode MCl 152 32 = some (.iinc 3 1, 35, 0, 0, 1) := by decide +kernel
theorem k152_35 : icode MCl 152 35 = some (.goto (-31), 38, 4, 0, 0) := by decide +kernel
theorem k152_38 : icode MCl 152 38 = some (.iload_n 2, 39, 0, 0, 0) := by decide +kernel
theorem k152_39 : icode MCl 152 39 = some (.ireturn, 40, 0, 0, 0) := by decide +kernel
theorem k153_0 : icode MCl 153 0 = some (.iload_n 1, 1, 0, 0, 0) := by decide +kernel
theorem k153_1 : icode MCl 153 1 = some (.iconst 0, 2, 0, 0, 0) := by decide +kernel
theorem k153_2 : icode MCl 153 2 = some (.iconst 1, 3, 0, 0, 1) := by decide +kernel
theorem k153_3 : icode MCl 153 3 = some (.invokestatic 86, 6, 22, 439, 0) := by decide +kernel
theorem k153_6 : icode MCl 153 6 = some (.ifCond .ne 5, 9, 11, 0, 0) := by decide +kernel
theorem k153_9 : icode MCl 153 9 = some (.iconst (-1), 10, 0, 0, (-1)) := by decide +kernel
theorem k153_10 : icode MCl 153 10 = some (.ireturn, 11, 0, 0, 0) := by decide +kernel
theorem k153_11 : icode MCl 153 11 = some (.iconst 0, 12, 0, 0, 0) := by decide +kernel
theorem k153_12 : icode MCl 153 12 = some (.istore_n 2, 13, 0, 0, 0) := by decide +kernel
theorem k153_13 : icode MCl 153 13 = some (.iconst 0, 14, 0, 0, 0) := by decide +kernel
theorem k153_14 : icode MCl 153 14 = some (.istore_n 3, 15, 0, 0, 0) := by decide +kernel
theorem k153_15 : icode MCl 153 15 = some (.iconst 0, 16, 0, 0, 0) := by decide +kernel
theorem k153_16 : icode MCl 153 16 = some (.istore 4, 18, 0, 0, 0) := by decide +kernel
theorem k153_18 : icode MCl 153 18 = some (.iload 4, 20, 0, 0, 0) := by decide +kernel
theorem k153_20 : icode MCl 153 20 = some (.aload_n 0, 21, 0, 0, 0) := by decide +kernel
theorem k153_21 : icode MCl 153 21 = some (.getfield 28, 24, 702, 411, 1) := by decide +kernel
theorem k153_24 : icode MCl 153 24 = some (.invokevirtual 92, 27, 72, 453, 0) := by decide +kernel
theorem k153_27 : icode MCl 153 27 = some (.if_icmp .ge 32, 30, 59, 0, 0) := by decide +kernel
theorem k153_30 : icode MCl 153 30 = some (.aload_n 0, 31, 0, 0, 0) := by decide +kernel
theorem k153_31 : icode MCl 153 31 = some (.getfield 28, 34, 702, 411, 1) := by decide +kernel
theorem k153_34 : icode MCl 153 34 = some (.iload 4, 36, 0, 0, 0) := by decide +kernel
theorem k153_36 : icode MCl 153 36 = some (.invokevirtual 202, 39, 152, 655, 0) := by decide +kernel
theorem k153_39 : icode MCl 153 39 = some (.istore 5, 41, 0, 0, 0) := by decide +kernel
theorem k153_41 : icode MCl 153 41 = some (.iload 5, 43, 0, 0, 0) := by decide +kernel
theorem k153_43 : icode MCl 153 43 = some (.iload_n 3, 44, 0, 0, 0) := by decide +kernel
theorem k153_44 : icode MCl 153 44 = some (.if_icmp .le 9, 47, 53, 0, 0) := by decide +kernel
theorem k153_47 : icode MCl 153 47 = some (.iload 4, 49, 0, 0, 0) := by decide +kernel
theorem k153_49 : icode MCl 153 49 = some (.istore_n 2, 50, 0, 0, 0) := by decide +kernel
theorem k153_50 : icode MCl 153 50 = some (.iload 5, 52, 0, 0, 0) := by decide +kernel
theorem k153_52 : icode MCl 153 52 = some (.istore_n 3, 53, 0, 0, 0) := by decide +kernel
theorem k153_53 : icode MCl 153 53 = some (.iinc 4 1, 56, 0, 0, 1) := by decide +kernel
theorem k153_56 : icode MCl 153 56 = some (.goto (-38), 59, 18, 0, 0) := by decide +kernel
theorem k153_59 : icode MCl 153 59 = some (.iload_n 1, 60, 0, 0, 0) := by decide +kernel
theorem k153_60 : icode MCl 153 60 = some (.ifCond .ne 7, 63, 67, 0, 0) := by decide +kernel
theorem k153_63 : icode MCl 153 63 = some (.iload_n 2, 64, 0, 0, 0) := by decide +kernel
theorem k153_64 : icode MCl 153 64 = some (.goto 4, 67, 68, 0, 0) := by decide +kernel
theorem k153_67 : icode MCl 153 67 = some (.iload_n 3, 68, 0, 0, 0) := by decide +kernel
theorem k153_68 : icode MCl 153 68 = some (.ireturn, 69, 0, 0, 0) := by decide +kernel
theorem k154_0 : icode MCl 154 0 = some (.iconst 0, 1, 0, 0, 0) := by decide +kernel
theorem k154_1 : icode MCl 154 1 = some (.istore_n 2, 2, 0, 0, 0) := by decide +kernel
theorem k154_2 : icode MCl 154 2 = some (.iconst 0, 3, 0, 0, 0) := by decide +kernel
theorem k154_3 : icode MCl 154 3 = some (.istore_n 3, 4, 0, 0, 0) := by decide +kernel
theorem k154_4 : icode MCl 154 4 = some (.iload_n 3, 5, 0, 0, 0) := by decide +kernel
theorem k154_5 : icode MCl 154 5 = some (.aload_n 0, 6, 0, 0, 0) := by decide +kernel
theorem k154_6 : icode MCl 154 6 = some (.getfield 119, 9, 812, 787, 0) := by decide +kernel
theorem k154_9 : icode MCl 154 9 = some (.if_icmp .ge 84, 12, 93, 0, 0) := by decide +kernel
theorem k154_12 : icode MCl 154 12 = some (.iload_n 3, 13, 0, 0, 0) := by decide +kernel
theorem k154_13 : icode MCl 154 13 = some (.iload_n 1, 14, 0, 0, 0) := by decide +kernel
theorem k154_14 : icode MCl 154 14 = some (.if_icmp .ne 7, 17, 21, 0, 0) := by decide +kernel
theorem k154_17 : icode MCl 154 17 = some (.iconst 1, 18, 0, 0, 1) := by decide +kernel
theorem k154_18 : icode MCl 154 18 = some (.goto 4, 21, 22, 0, 0) := by decide +kernel
theorem k154_21 : icode MCl 154 21 = some (.iconst 0, 22, 0, 0, 0) := by decide +kernel
theorem k154_22 : icode MCl 154 22 = some (.istore 4, 24, 0, 0, 0) := by decide +kernel
theorem k154_24 : icode MCl 154 24 = some (.iload_n 3, 25, 0, 0, 0) := by decide +kernel
theorem k154_25 : icode MCl 154 25 = some (.istore 5, 27, 0, 0, 0) := by decide +kernel
theorem k154_27 : icode MCl 154 27 = some (.aload_n 0, 28, 0, 0, 0) := by decide +kernel
theorem k154_28 : icode MCl 154 28 = some (.getfield 37, 31, 815, 790, 1) := by decide +kernel
theorem k154_31 : icode MCl 154 31 = some (.iload 5, 33, 0, 0, 0) := by decide +kernel
theorem k154_33 : icode MCl 154 33 = some (.iaload, 34, 0, 0, 0) := by decide +kernel
theorem k154_34 : icode MCl 154 34 = some (.iload 5, 36, 0, 0, 0) := by decide +kernel
theorem k154_36 : icode MCl 154 36 = some (.if_icmp .eq 38, 39, 74, 0, 0) := by decide +kernel
theorem k154_39 : icode MCl 154 39 = some (.iload 4, 41, 0, 0, 0) := by decide +kernel
theorem k154_41 : icode MCl 154 41 = some (.ifCond .ne 14, 44, 55, 0, 0) := by decide +kernel
theorem k154_44 : icode MCl 154 44 = some (.aload_n 0, 45, 0, 0, 0) := by decide +kernel
theorem k154_45 : icode MCl 154 45 = some (.getfield 37, 48, 815, 790, 1) := by decide +kernel
theorem k154_48 : icode MCl 154 48 = some (.iload 5, 50, 0, 0, 0) := by decide +kernel
theorem k154_50 : icode MCl 154 50 = some (.iaload, 51, 0, 0, 0) := by decide +kernel
theorem k154_51 : icode MCl 154 51 = some (.iload_n 1, 52, 0, 0, 0) := by decide +kernel
theorem k154_52 : icode MCl 154 52 = some (.if_icmp .ne 7, 55, 59, 0, 0) := by decide +kernel
theorem k154_55 : icode MCl 154 55 = some (.iconst 1, 56, 0, 0, 1) := by decide +kernel
theorem k154_56 : icode MCl 154 56 = some (.goto 4, 59, 60, 0, 0) := by decide +kernel
theorem k154_59 : icode MCl 154 59 = some (.iconst 0, 60, 0, 0, 0) := by decide +kernel
theorem k154_60 : icode MCl 154 60 = some (.istore 4, 62, 0, 0, 0) := by decide +kernel
theorem k154_62 : icode MCl 154 62 = some (.aload_n 0, 63, 0, 0, 0) := by decide +kernel
theorem k154_63 : icode MCl 154 63 = some (.getfield 37, 66, 815, 790, 1) := by decide +kernel
theorem k154_66 : icode MCl 154 66 = some (.iload 5, 68, 0, 0, 0) := by decide +kernel
theorem k154_68 : icode MCl 154 68 = some (.iaload, 69, 0, 0, 0) := by decide +kernel
theorem k154_69 : icode MCl 154 69 = some (.istore 5, 71, 0, 0, 0) := by decide +kernel
theorem k154_71 : icode MCl 154 71 = some (.goto (-44), 74, 27, 0, 0) := by decide +kernel
theorem k154_74 : icode MCl 154 74 = some (.iload_n 2, 75, 0, 0, 0) := by decide +kernel
theorem k154_75 : icode MCl 154 75 = some (.iload 4, 77, 0, 0, 0) := by decide +kernel
theorem k154_77 : icode MCl 154 77 = some (.ifCond .eq 7, 80, 84, 0, 0) := by decide +kernel
theorem k154_80 : icode MCl 154 80 = some (.iconst 1, 81, 0, 0, 1) := by decide +kernel
theorem k154_81 : icode MCl 154 81 = some (.goto 4, 84, 85, 0, 0) := by decide +kernel
theorem k154_84 : icode MCl 154 84 = some (.iconst 0, 85, 0, 0, 0) := by decide +kernel
theorem k154_85 : icode MCl 154 85 = some (.iadd, 86, 0, 0, 0) := by decide +kernel
theorem k154_86 : icode MCl 154 86 = some (.istore_n 2, 87, 0, 0, 0) := by decide +kernel
theorem k154_87 : icode MCl 154 87 = some (.iinc 3 1, 90, 0, 0, 1) := by decide +kernel
theorem k154_90 : icode MCl 154 90 = some (.goto (-86), 93, 4, 0, 0) := by decide +kernel
theorem k154_93 : icode MCl 154 93 = some (.iload_n 2, 94, 0, 0, 0) := by decide +kernel
theorem k154_94 : icode MCl 154 94 = some (.ireturn, 95, 0, 0, 0) := by decide +kernel
theorem k155_0 : icode MCl 155 0 = some (.iload_n 1, 1, 0, 0, 0) := by decide +kernel
theorem k155_1 : icode MCl 155 1 = some (.iconst 0, 2, 0, 0, 0) := by decide +kernel
theorem k155_2 : icode MCl 155 2 = some (.iconst 1, 3, 0, 0, 1) := by decide +kernel
theorem k155_3 : icode MCl 155 3 = some (.invokestatic 73, 6, 59, 855, 0) := by decide +kernel
theorem k155_6 : icode MCl 155 6 = some (.ifCond .ne 5, 9, 11, 0, 0) := by decide +kernel
theorem k155_9 : icode MCl 155 9 = some (.iconst (-1), 10, 0, 0, (-1)) := by decide +kernel
theorem k155_10 : icode MCl 155 10 = some (.ireturn, 11, 0, 0, 0) := by decide +kernel
theorem k155_11 : icode MCl 155 11 = some (.iconst 0, 12, 0, 0, 0) := by decide +kernel
theorem k155_12 : icode MCl 155 12 = some (.istore_n 2, 13, 0, 0, 0) := by decide +kernel
theorem k155_13 : icode MCl 155 13 = some (.iconst 1, 14, 0, 0, 1) := by decide +kernel
theorem k155_14 : icode MCl 155 14 = some (.istore_n 3, 15, 0, 0, 0) := by decide +kernel
theorem k155_15 : icode MCl 155 15 = some (.iload_n 3, 16, 0, 0, 0) := by decide +kernel
theorem k155_16 : icode MCl 155 16 = some (.aload_n 0, 17, 0, 0, 0) := by decide +kernel
theorem k155_17 : icode MCl 155 17 = some (.getfield 119, 20, 812, 787, 0) := by decide +kernel
theorem k155_20 : icode MCl 155 20 = some (.if_icmp .ge 28, 23, 48, 0, 0) := by decide +kernel
theorem k155_23 : icode MCl 155 23 = some (.aload_n 0, 24, 0, 0, 0) := by decide +kernel
theorem k155_24 : icode MCl 155 24 = some (.iload_n 3, 25, 0, 0, 0) := by decide +kernel
theorem k155_25 : icode MCl 155 25 = some (.invokevirtual 198, 28, 154, 1026, 0) := by decide +kernel
theorem k155_28 : icode MCl 155 28 = some (.aload_n 0, 29, 0, 0, 0) := by decide +kernel
theorem k155_29 : icode MCl 155 29 = some (.iload_n 2, 30, 0, 0, 0) := by decide +kernel
theorem k155_30 : icode MCl 155 30 = some (.invokevirtual 198, 33, 154, 1026, 0) := by decide +kernel
theorem k155_33 : icode MCl 155 33 = some (.if_icmp .le 7, 36, 40, 0, 0) := by decide +kernel
theorem k155_36 : icode MCl 155 36 = some (.iload_n 3, 37, 0, 0, 0) := by decide +kernel
theorem k155_37 : icode MCl 155 37 = some (.goto 4, 40, 41, 0, 0) := by decide +kernel
theorem k155_40 : icode MCl 155 40 = some (.iload_n 2, 41, 0, 0, 0) := by decide +kernel
theorem k155_41 : icode MCl 155 41 = some (.istore_n 2, 42, 0, 0, 0) := by decide +kernel
theorem k155_42 : icode MCl 155 42 = some (.iinc 3 1, 45, 0, 0, 1) := by decide +kernel
theorem k155_45 : icode MCl 155 45 = some (.goto (-30), 48, 15, 0, 0) := by decide +kernel
theorem k155_48 : icode MCl 155 48 = some (.iload_n 1, 49, 0, 0, 0) := by decide +kernel
theorem k155_49 : icode MCl 155 49 = some (.ifCond .ne 7, 52, 56, 0, 0) := by decide +kernel
theorem k155_52 : icode MCl 155 52 = some (.iload_n 2, 53, 0, 0, 0) := by decide +kernel
theorem k155_53 : icode MCl 155 53 = some (.goto 8, 56, 61, 0, 0) := by decide +kernel
theorem k155_56 : icode MCl 155 56 = some (.aload_n 0, 57, 0, 0, 0) := by decide +kernel
theorem k155_57 : icode MCl 155 57 = some (.iload_n 2, 58, 0, 0, 0) := by decide +kernel
theorem k155_58 : icode MCl 155 58 = some (.invokevirtual 198, 61, 154, 1026, 0) := by decide +kernel
theorem k155_61 : icode MCl 155 61 = some (.ireturn, 62, 0, 0, 0) := by decide +kernel
theorem k156_0 : icode MCl 156 0 = some (.aload_n 0, 1, 0, 0, 0) := by decide +kernel
theorem k156_1 : icode MCl 156 1 = some (.getfield 21, 4, 503, 207, 0) := by decide +kernel
theorem k156_4 : icode MCl 156 4 = some (.bipush 6, 6, 0, 0, 6) := by decide +kernel
theorem k156_6 : icode MCl 156 6 = some (.if_icmp .lt 5, 9, 11, 0, 0) := by decide +kernel
theorem k156_9 : icode MCl 156 9 = some (.iconst 0, 10, 0, 0, 0) := by decide +kernel
theorem k156_10 : icode MCl 156 10 = some (.ireturn, 11, 0, 0, 0) := by decide +kernel
theorem k156_11 : icode MCl 156 11 = some (.aload_n 0, 12, 0, 0, 0) := by decide +kernel
theorem k156_12 : icode MCl 156 12 = some (.getfield 9, 15, 500, 204, 1) := by decide +kernel
theorem k156_15 : icode MCl 156 15 = some (.aload_n 0, 16, 0, 0, 0) := by decide +kernel
theorem k156_16 : icode MCl 156 16 = some (.getfield 21, 19, 503, 207, 0) := by decide +kernel
theorem k156_19 : icode MCl 156 19 = some (.iload_n 1, 20, 0, 0, 0) := by decide +kernel
theorem k156_20 : icode MCl 156 20 = some (.invokestatic 25, 23, 15, 667, 1) := by decide +kernel
theorem k156_23 : icode MCl 156 23 = some (.aload_n 0, 24, 0, 0, 0) := by decide +kernel
theorem k156_24 : icode MCl 156 24 = some (.getfield 15, 27, 501, 205, 1) := by decide +kernel
theorem k156_27 : icode MCl 156 27 = some (.aload_n 0, 28, 0, 0, 0) := by decide +kernel
theorem k156_28 : icode MCl 156 28 = some (.getfield 21, 31, 503, 207, 0) := by decide +kernel
theorem k156_31 : icode MCl 156 31 = some (.iload_n 2, 32, 0, 0, 0) := by decide +kernel
theorem k156_32 : icode MCl 156 32 = some (.invokestatic 25, 35, 15, 667, 1) := by decide +kernel
theorem k156_35 : icode MCl 156 35 = some (.aload_n 0, 36, 0, 0, 0) := by decide +kernel
theorem k156_36 : icode MCl 156 36 = some (.getfield 18, 39, 502, 206, 1) := by decide +kernel
theorem k156_39 : icode MCl 156 39 = some (.aload_n 0, 40, 0, 0, 0) := by decide +kernel
theorem k156_40 : icode MCl 156 40 = some (.getfield 21, 43, 503, 207, 0) := by decide +kernel
theorem k156_43 : icode MCl 156 43 = some (.iload_n 3, 44, 0, 0, 0) := by decide +kernel
theorem k156_44 : icode MCl 156 44 = some (.invokestatic 25, 47, 15, 667, 1) := by decide +kernel
theorem k156_47 : icode MCl 156 47 = some (.aload_n 0, 48, 0, 0, 0) := by decide +kernel
theorem k156_48 : icode MCl 156 48 = some (.dup, 49, 0, 0, 0) := by decide +kernel
theorem k156_49 : icode MCl 156 49 = some (.getfield 21, 52, 503, 207, 0) := by decide +kernel
theorem k156_52 : icode MCl 156 52 = some (.iconst 1, 53, 0, 0, 1) := by decide +kernel
theorem k156_53 : icode MCl 156 53 = some (.iadd, 54, 0, 0, 0) := by decide +kernel
theorem k156_54 : icode MCl 156 54 = some (.putfield 21, 57, 503, 207, 0) := by decide +kernel
theorem k156_57 : icode MCl 156 57 = some (.iconst 1, 58, 0, 0, 1) := by decide +kernel
theorem k156_58 : icode MCl 156 58 = some (.ireturn, 59, 0, 0, 0) := by decide +kernel
theorem k157_0 : icode MCl 157 0 = some (.aload_n 0, 1, 0, 0, 0) := by decide +kernel
theorem k157_1 : icode MCl 157 1 = some (.getfield 21, 4, 503, 207, 0) := by decide +kernel
theorem k157_4 : icode MCl 157 4 = some (.ireturn, 5, 0, 0, 0) := by decide +kernel
theorem k158_0 : icode MCl 158 0 = some (.aload_n 0, 1, 0, 0, 0) := by decide +kernel
theorem k158_1 : icode MCl 158 1 = some (.getfield 28, 4, 702, 411, 1) := by decide +kernel
theorem k158_4 : icode MCl 158 4 = some (.iload_n 1, 5, 0, 0, 0) := by decide +kernel
theorem k158_5 : icode MCl 158 5 = some (.invokevirtual 95, 8, 29, 461, 0) := by decide +kernel
theorem k158_8 : icode MCl 158 8 = some (.ifCond .eq 17, 11, 25, 0, 0) := by decide +kernel
theorem k158_11 : icode MCl 158 11 = some (.iload_n 2, 12, 0, 0, 0) := by decide +kernel
theorem k158_12 : icode MCl 158 12 = some (.invokestatic 163, 15, 88, 558, 0) := by decide +kernel
theorem k158_15 : icode MCl 158 15 = some (.ifCond .eq 10, 18, 25, 0, 0) := by decide +kernel
theorem k158_18 : icode MCl 158 18 = some (.iload_n 3, 19, 0, 0, 0) := by decide +kernel
theorem k158_19 : icode MCl 158 19 = some (.invokestatic 140, 22, 89, 487, 0) := by decide +kernel
theorem k158_22 : icode MCl 158 22 = some (.ifCond .ne 5, 25, 27, 0, 0) := by decide +kernel
theorem k158_25 : icode MCl 158 25 = some (.iconst (-1), 26, 0, 0, (-1)) := by decide +kernel
theorem k158_26 : icode MCl 158 26 = some (.ireturn, 27, 0, 0, 0) := by decide +kernel
theorem k158_27 : icode MCl 158 27 = some (.aload_n 0, 28, 0, 0, 0) := by decide +kernel
theorem k158_28 : icode MCl 158 28 = some (.getfield 57, 31, 707, 416, 1) := by decide +kernel
theorem k158_31 : icode MCl 158 31 = some (.iload_n 1, 32, 0, 0, 0) := by decide +kernel
theorem k158_32 : icode MCl 158 32 = some (.iload_n 2, 33, 0, 0, 0) := by decide +kernel
theorem k158_33 : icode MCl 158 33 = some (.iload_n 3, 34, 0, 0, 0) := by decide +kernel
theorem k158_34 : icode MCl 158 34 = some (.invokevirtual 205, 37, 156, 663, 0) := by decide +kernel
theorem k158_37 : icode MCl 158 37 = some (.ifCond .eq 13, 40, 50, 0, 0) := by decide +kernel
theorem k158_40 : icode MCl 158 40 = some (.aload_n 0, 41, 0, 0, 0) := by decide +kernel
theorem k158_41 : icode MCl 158 41 = some (.getfield 57, 44, 707, 416, 1) := by decide +kernel
theorem k158_44 : icode MCl 158 44 = some (.invokevirtual 206, 47, 157, 668, 0) := by decide +kernel
theorem k158_47 : icode MCl 158 47 = some (.goto 5, 50, 52, 0, 0) := by decide +kernel
theorem k158_50 : icode MCl 158 50 = some (.bipush (-3), 52, 0, 0, (-3)) := by decide +kernel
theorem k158_52 : icode MCl 158 52 = some (.ireturn, 53, 0, 0, 0) := by decide +kernel
theorem k159_0 : icode MCl 159 0 = some (.aload_n 0, 1, 0, 0, 0) := by decide +kernel
theorem k159_1 : icode MCl 159 1 = some (.iload_n 1, 2, 0, 0, 0) := by decide +kernel
theorem k159_2 : icode MCl 159 2 = some (.invokevirtual 139, 5, 78, 902, 0) := by decide +kernel
theorem k159_5 : icode MCl 159 5 = some (.ifCond .eq 21, 8, 26, 0, 0) := by decide +kernel
theorem k159_8 : icode MCl 159 8 = some (.iload_n 2, 9, 0, 0, 0) := by decide +kernel
theorem k159_9 : icode MCl 159 9 = some (.invokestatic 149, 12, 94, 925, 0) := by decide +kernel
theorem k159_12 : icode MCl 159 12 = some (.ifCond .eq 14, 15, 26, 0, 0) := by decide +kernel
theorem k159_15 : icode MCl 159 15 = some (.iload_n 3, 16, 0, 0, 0) := by decide +kernel
theorem k159_16 : icode MCl 159 16 = some (.ifCond .eq 12, 19, 28, 0, 0) := by decide +kernel
theorem k159_19 : icode MCl 159 19 = some (.iload_n 3, 20, 0, 0, 0) := by decide +kernel
theorem k159_20 : icode MCl 159 20 = some (.invokestatic 149, 23, 94, 925, 0) := by decide +kernel
theorem k159_23 : icode MCl 159 23 = some (.ifCond .ne 5, 26, 28, 0, 0) := by decide +kernel
theorem k159_26 : icode MCl 159 26 = some (.iconst (-1), 27, 0, 0, (-1)) := by decide +kernel
theorem k159_27 : icode MCl 159 27 = some (.ireturn, 28, 0, 0, 0) := by decide +kernel
theorem k159_28 : icode MCl 159 28 = some (.aload_n 0, 29, 0, 0, 0) := by decide +kernel
theorem k159_29 : icode MCl 159 29 = some (.getfield 132, 32, 821, 796, 0) := by decide +kernel
theorem k159_32 : icode MCl 159 32 = some (.bipush 6, 34, 0, 0, 6) := by decide +kernel
theorem k159_34 : icode MCl 159 34 = some (.if_icmp .ne 6, 37, 40, 0, 0) := by decide +kernel
theorem k159_37 : icode MCl 159 37 = some (.bipush (-3), 39, 0, 0, (-3)) := by decide +kernel
theorem k159_39 : icode MCl 159 39 = some (.ireturn, 40, 0, 0, 0) := by decide +kernel
theorem k159_40 : icode MCl 159 40 = some (.aload_n 0, 41, 0, 0, 0) := by decide +kernel
theorem k159_41 : icode MCl 159 41 = some (.getfield 49, 44, 822, 797, 1) := by decide +kernel
theorem k159_44 : icode MCl 159 44 = some (.iconst 3, 45, 0, 0, 3) := by decide +kernel
theorem k159_45 : icode MCl 159 45 = some (.aload_n 0, 46, 0, 0, 0) := by decide +kernel
theorem k159_46 : icode MCl 159 46 = some (.getfield 132, 49, 821, 796, 0) := by decide +kernel
theorem k159_49 : icode MCl 159 49 = some (.imul, 50, 0, 0, 0) := by decide +kernel
theorem k159_50 : icode MCl 159 50 = some (.iload_n 1, 51, 0, 0, 0) := by decide +kernel
theorem k159_51 : icode MCl 159 51 = some (.iastore, 52, 0, 0, 0) := by decide +kernel
theorem k159_52 : icode MCl 159 52 = some (.aload_n 0, 53, 0, 0, 0) := by decide +kernel
theorem k159_53 : icode MCl 159 53 = some (.getfield 49, 56, 822, 797, 1) := by decide +kernel
theorem k159_56 : icode MCl 159 56 = some (.iconst 3, 57, 0, 0, 3) := by decide +kernel
theorem k159_57 : icode MCl 159 57 = some (.aload_n 0, 58, 0, 0, 0) := by decide +kernel
theorem k159_58 : icode MCl 159 58 = some (.getfield 132, 61, 821, 796, 0) := by decide +kernel
theorem k159_61 : icode MCl 159 61 = some (.imul, 62, 0, 0, 0) := by decide +kernel
theorem k159_62 : icode MCl 159 62 = some (.iconst 1, 63, 0, 0, 1) := by decide +kernel
theorem k159_63 : icode MCl 159 63 = some (.iadd, 64, 0, 0, 0) := by decide +kernel
theorem k159_64 : icode MCl 159 64 = some (.iload_n 2, 65, 0, 0, 0) := by decide +kernel
theorem k159_65 : icode MCl 159 65 = some (.iastore, 66, 0, 0, 0) := by decide +kernel
theorem k159_66 : icode MCl 159 66 = some (.aload_n 0, 67, 0, 0, 0) := by decide +kernel
theorem k159_67 : icode MCl 159 67 = some (.getfield 49, 70, 822, 797, 1) := by decide +kernel
theorem k159_70 : icode MCl 159 70 = some (.iconst 3, 71, 0, 0, 3) := by decide +kernel
theorem k159_71 : icode MCl 159 71 = some (.aload_n 0, 72, 0, 0, 0) := by decide +kernel
theorem k159_72 : icode MCl 159 72 = some (.getfield 132, 75, 821, 796, 0) := by decide +kernel
theorem k159_75 : icode MCl 159 75 = some (.imul, 76, 0, 0, 0) := by decide +kernel
theorem k159_76 : icode MCl 159 76 = some (.iconst 2, 77, 0, 0, 2) := by decide +kernel
theorem k159_77 : icode MCl 159 77 = some (.iadd, 78, 0, 0, 0) := by decide +kernel
theorem k159_78 : icode MCl 159 78 = some (.iload_n 3, 79, 0, 0, 0) := by decide +kernel
theorem k159_79 : icode MCl 159 79 = some (.iastore, 80, 0, 0, 0) := by decide +kernel
theorem k159_80 : icode MCl 159 80 = some (.aload_n 0, 81, 0, 0, 0) := by decide +kernel
theorem k159_81 : icode MCl 159 81 = some (.dup, 82, 0, 0, 0) := by decide +kernel
theorem k159_82 : icode MCl 159 82 = some (.getfield 132, 85, 821, 796, 0) := by decide +kernel
theorem k159_85 : icode MCl 159 85 = some (.iconst 1, 86, 0, 0, 1) := by decide +kernel
theorem k159_86 : icode MCl 159 86 = some (.iadd, 87, 0, 0, 0) := by decide +kernel
theorem k159_87 : icode MCl 159 87 = some (.putfield 132, 90, 821, 796, 0) := by decide +kernel
theorem k159_90 : icode MCl 159 90 = some (.aload_n 0, 91, 0, 0, 0) := by decide +kernel
theorem k159_91 : icode MCl 159 91 = some (.getfield 132, 94, 821, 796, 0) := by decide +kernel
theorem k159_94 : icode MCl 159 94 = some (.ireturn, 95, 0, 0, 0) := by decide +kernel
theorem k160_0 : icode MCl 160 0 = some (.aload_n 0, 1, 0, 0, 0) := by decide +kernel
theorem k160_1 : icode MCl 160 1 = some (.getfield 57, 4, 707, 416, 1) := by decide +kernel
theorem k160_4 : icode MCl 160 4 = some (.invokevirtual 206, 7, 157, 668, 0) := by decide +kernel
theorem k160_7 : icode MCl 160 7 = some (.istore_n 1, 8, 0, 0, 0) := by decide +kernel
theorem k160_8 : icode MCl 160 8 = some (.aload_n 0, 9, 0, 0, 0) := by decide +kernel
theorem k160_9 : icode MCl 160 9 = some (.getfield 57, 12, 707, 416, 1) := by decide +kernel
theorem k160_12 : icode MCl 160 12 = some (.invokevirtual 207, 15, 47, 397, 0) := by decide +kernel
theorem k160_15 : icode MCl 160 15 = some (.iload_n 1, 16, 0, 0, 0) := by decide +kernel
theorem k160_16 : icode MCl 160 16 = some (.ireturn, 17, 0, 0, 0) := by decide +kernel
theorem k161_0 : icode MCl 161 0 = some (.aload_n 0, 1, 0, 0, 0) := by decide +kernel
theorem k161_1 : icode MCl 161 1 = some (.getfield 132, 4, 821, 796, 0) := by decide +kernel
theorem k161_4 : icode MCl 161 4 = some (.istore_n 1, 5, 0, 0, 0) := by decide +kernel
theorem k161_5 : icode MCl 161 5 = some (.aload_n 0, 6, 0, 0, 0) := by decide +kernel
theorem k161_6 : icode MCl 161 6 = some (.iconst 0, 7, 0, 0, 0) := by decide +kernel
theorem k161_7 : icode MCl 161 7 = some (.putfield 132, 10, 821, 796, 0) := by decide +kernel
theorem k161_10 : icode MCl 161 10 = some (.iload_n 1, 11, 0, 0, 0) := by decide +kernel
theorem k161_11 : icode MCl 161 11 = some (.ireturn, 12, 0, 0, 0) := by decide +kernel
theorem k162_0 : icode MCl 162 0 = some (.iconst 0, 1, 0, 0, 0) := by decide +kernel
theorem k162_1 : icode MCl 162 1 = some (.istore 4, 3, 0, 0, 0) := by decide +kernel
theorem k162_3 : icode MCl 162 3 = some (.iload 4, 5, 0, 0, 0) := by decide +kernel
theorem k162_5 : icode MCl 162 5 = some (.aload_n 0, 6, 0, 0, 0) := by decide +kernel
theorem k162_6 : icode MCl 162 6 = some (.getfield 21, 9, 503, 207, 0) := by decide +kernel
theorem k162_9 : icode MCl 162 9 = some (.if_icmp .ge 47, 12, 56, 0, 0) := by decide +kernel
theorem k162_12 : icode MCl 162 12 = some (.aload_n 1, 13, 0, 0, 0) := by decide +kernel
theorem k162_13 : icode MCl 162 13 = some (.iload_n 2, 14, 0, 0, 0) := by decide +kernel
theorem k162_14 : icode MCl 162 14 = some (.iload_n 3, 15, 0, 0, 0) := by decide +kernel
theorem k162_15 : icode MCl 162 15 = some (.aload_n 0, 16, 0, 0, 0) := by decide +kernel
theorem k162_16 : icode MCl 162 16 = some (.getfield 9, 19, 500, 204, 1) := by decide +kernel
theorem k162_19 : icode MCl 162 19 = some (.iload 4, 21, 0, 0, 0) := by decide +kernel
theorem k162_21 : icode MCl 162 21 = some (.invokestatic 29, 24, 40, 688, 1) := by decide +kernel
theorem k162_24 : icode MCl 162 24 = some (.aload_n 0, 25, 0, 0, 0) := by decide +kernel
theorem k162_25 : icode MCl 162 25 = some (.getfield 15, 28, 501, 205, 1) := by decide +kernel
theorem k162_28 : icode MCl 162 28 = some (.iload 4, 30, 0, 0, 0) := by decide +kernel
theorem k162_30 : icode MCl 162 30 = some (.invokestatic 29, 33, 40, 688, 1) := by decide +kernel
theorem k162_33 : icode MCl 162 33 = some (.invokevirtual 33, 36, 125, 689, 0) := by decide +kernel
theorem k162_36 : icode MCl 162 36 = some (.aload_n 0, 37, 0, 0, 0) := by decide +kernel
theorem k162_37 : icode MCl 162 37 = some (.getfield 18, 40, 502, 206, 1) := by decide +kernel
theorem k162_40 : icode MCl 162 40 = some (.iload 4, 42, 0, 0, 0) := by decide +kernel
theorem k162_42 : icode MCl 162 42 = some (.invokestatic 29, 45, 40, 688, 1) := by decide +kernel
theorem k162_45 : icode MCl 162 45 = some (.if_icmp .eq 5, 48, 50, 0, 0) := by decide +kernel
theorem k162_48 : icode MCl 162 48 = some (.iconst 0, 49, 0, 0, 0) := by decide +kernel
theorem k162_49 : icode MCl 162 49 = some (.ireturn, 50, 0, 0, 0) := by decide +kernel
theorem k162_50 : icode MCl 162 50 = some (.iinc 4 1, 53, 0, 0, 1) := by decide +kernel
theorem k162_53 : icode MCl 162 53 = some (.goto (-50), 56, 3, 0, 0) := by decide +kernel
theorem k162_56 : icode MCl 162 56 = some (.iconst 1, 57, 0, 0, 1) := by decide +kernel
theorem k162_57 : icode MCl 162 57 = some (.ireturn, 58, 0, 0, 0) := by decide +kernel
theorem k163_0 : icode MCl 163 0 = some (.iconst 0, 1, 0, 0, 0) := by decide +kernel
theorem k163_1 : icode MCl 163 1 = some (.istore_n 2, 2, 0, 0, 0) := by decide +kernel
theorem k163_2 : icode MCl 163 2 = some (.iconst 0, 3, 0, 0, 0) := by decide +kernel
theorem k163_3 : icode MCl 163 3 = some (.istore_n 3, 4, 0, 0, 0) := by decide +kernel
theorem k163_4 : icode MCl 163 4 = some (.iload_n 3, 5, 0, 0, 0) := by decide +kernel
theorem k163_5 : icode MCl 163 5 = some (.iconst 5, 6, 0, 0, 5) := by decide +kernel
theorem k163_6 : icode MCl 163 6 = some (.if_icmp .ge 31, 9, 37, 0, 0) := by decide +kernel
theorem k163_9 : icode MCl 163 9 = some (.aload_n 0, 10, 0, 0, 0) := by decide +kernel
theorem k163_10 : icode MCl 163 10 = some (.getfield 57, 13, 707, 416, 1) := by decide +kernel
theorem k163_13 : icode MCl 163 13 = some (.aload_n 0, 14, 0, 0, 0) := by decide +kernel
theorem k163_14 : icode MCl 163 14 = some (.getfield 28, 17, 702, 411, 1) := by decide +kernel
theorem k163_17 : icode MCl 163 17 = some (.iload_n 1, 18, 0, 0, 0) := by decide +kernel
theorem k163_18 : icode MCl 163 18 = some (.iload_n 3, 19, 0, 0, 0) := by decide +kernel
theorem k163_19 : icode MCl 163 19 = some (.invokevirtual 211, 22, 162, 684, 0) := by decide +kernel
theorem k163_22 : icode MCl 163 22 = some (.ifCond .eq 9, 25, 31, 0, 0) := by decide +kernel
theorem k163_25 : icode MCl 163 25 = some (.iload_n 2, 26, 0, 0, 0) := by decide +kernel
theorem k163_26 : icode MCl 163 26 = some (.iconst 1, 27, 0, 0, 1) := by decide +kernel
theorem k163_27 : icode MCl 163 27 = some (.iload_n 3, 28, 0, 0, 0) := by decide +kernel
theorem k163_28 : icode MCl 163 28 = some (.ishl, 29, 0, 0, 0) := by decide +kernel
theorem k163_29 : icode MCl 163 29 = some (.ior, 30, 0, 0, 0) := by decide +kernel
theorem k163_30 : icode MCl 163 30 = some (.istore_n 2, 31, 0, 0, 0) := by decide +kernel
theorem k163_31 : icode MCl 163 31 = some (.iinc 3 1, 34, 0, 0, 1) := by decide +kernel
theorem k163_34 : icode MCl 163 34 = some (.goto (-30), 37, 4, 0, 0) := by decide +kernel
theorem k163_37 : icode MCl 163 37 = some (.iload_n 2, 38, 0, 0, 0) := by decide +kernel
theorem k163_38 : icode MCl 163 38 = some (.ireturn, 39, 0, 0, 0) := by decide +kernel
theorem k164_0 : icode MCl 164 0 = some (.aload_n 0, 1, 0, 0, 0) := by decide +kernel
theorem k164_1 : icode MCl 164 1 = some (.getfield 28, 4, 702, 411, 1) := by decide +kernel
theorem k164_4 : icode MCl 164 4 = some (.iload_n 1, 5, 0, 0, 0) := by decide +kernel
theorem k164_5 : icode MCl 164 5 = some (.invokevirtual 95, 8, 29, 461, 0) := by decide +kernel
theorem k164_8 : icode MCl 164 8 = some (.ifCond .eq 11, 11, 19, 0, 0) := by decide +kernel
theorem k164_11 : icode MCl 164 11 = some (.aload_n 0, 12, 0, 0, 0) := by decide +kernel
theorem k164_12 : icode MCl 164 12 = some (.iload_n 1, 13, 0, 0, 0) := by decide +kernel
theorem k164_13 : icode MCl 164 13 = some (.invokevirtual 208, 16, 163, 680, 0) := by decide +kernel
theorem k164_16 : icode MCl 164 16 = some (.goto 4, 19, 20, 0, 0) := by decide +kernel
theorem k164_19 : icode MCl 164 19 = some (.iconst (-1), 20, 0, 0, (-1)) := by decide +kernel
theorem k164_20 : icode MCl 164 20 = some (.ireturn, 21, 0, 0, 0) := by decide +kernel
theorem k165_0 : icode MCl 165 0 = some (.iconst 1, 1, 0, 0, 1) := by decide +kernel
theorem k165_1 : icode MCl 165 1 = some (.istore_n 3, 2, 0, 0, 0) := by decide +kernel
theorem k165_2 : icode MCl 165 2 = some (.iconst 0, 3, 0, 0, 0) := by decide +kernel
theorem k165_3 : icode MCl 165 3 = some (.istore 4, 5, 0, 0, 0) := by decide +kernel
theorem k165_5 : icode MCl 165 5 = some (.iload 4, 7, 0, 0, 0) := by decide +kernel
theorem k165_7 : icode MCl 165 7 = some (.aload_n 0, 8, 0, 0, 0) := by decide +kernel
theorem k165_8 : icode MCl 165 8 = some (.getfield 132, 11, 821, 796, 0) := by decide +kernel
theorem k165_11 : icode MCl 165 11 = some (.if_icmp .ge 59, 14, 70, 0, 0) := by decide +kernel
theorem k165_14 : icode MCl 165 14 = some (.iload_n 3, 15, 0, 0, 0) := by decide +kernel
theorem k165_15 : icode MCl 165 15 = some (.ifCond .eq 47, 18, 62, 0, 0) := by decide +kernel
theorem k165_18 : icode MCl 165 18 = some (.aload_n 0, 19, 0, 0, 0) := by decide +kernel
theorem k165_19 : icode MCl 165 19 = some (.aload_n 0, 20, 0, 0, 0) := by decide +kernel
theorem k165_20 : icode MCl 165 20 = some (.getfield 49, 23, 822, 797, 1) := by decide +kernel
theorem k165_23 : icode MCl 165 23 = some (.iconst 3, 24, 0, 0, 3) := by decide +kernel
theorem k165_24 : icode MCl 165 24 = some (.iload 4, 26, 0, 0, 0) := by decide +kernel
theorem k165_26 : icode MCl 165 26 = some (.imul, 27, 0, 0, 0) := by decide +kernel
theorem k165_27 : icode MCl 165 27 = some (.iaload, 28, 0, 0, 0) := by decide +kernel
theorem k165_28 : icode MCl 165 28 = some (.aload_n 0, 29, 0, 0, 0) := by decide +kernel
theorem k165_29 : icode MCl 165 29 = some (.getfield 49, 32, 822, 797, 1) := by decide +kernel
theorem k165_32 : icode MCl 165 32 = some (.iconst 3, 33, 0, 0, 3) := by decide +kernel
theorem k165_33 : icode MCl 165 33 = some (.iload 4, 35, 0, 0, 0) := by decide +kernel
theorem k165_35 : icode MCl 165 35 = some (.imul, 36, 0, 0, 0) := by decide +kernel
theorem k165_36 : icode MCl 165 36 = some (.iconst 1, 37, 0, 0, 1) := by decide +kernel
theorem k165_37 : icode MCl 165 37 = some (.iadd, 38, 0, 0, 0) := by decide +kernel
theorem k165_38 : icode MCl 165 38 = some (.iaload, 39, 0, 0, 0) := by decide +kernel
theorem k165_39 : icode MCl 165 39 = some (.iload_n 1, 40, 0, 0, 0) := by decide +kernel
theorem k165_40 : icode MCl 165 40 = some (.iload_n 2, 41, 0, 0, 0) := by decide +kernel
theorem k165_41 : icode MCl 165 41 = some (.invokevirtual 178, 44, 130, 984, 0) := by decide +kernel
theorem k165_44 : icode MCl 165 44 = some (.aload_n 0, 45, 0, 0, 0) := by decide +kernel
theorem k165_45 : icode MCl 165 45 = some (.getfield 49, 48, 822, 797, 1) := by decide +kernel
theorem k165_48 : icode MCl 165 48 = some (.iconst 3, 49, 0, 0, 3) := by decide +kernel
theorem k165_49 : icode MCl 165 49 = some (.iload 4, 51, 0, 0, 0) := by decide +kernel
theorem k165_51 : icode MCl 165 51 = some (.imul, 52, 0, 0, 0) := by decide +kernel
theorem k165_52 : icode MCl 165 52 = some (.iconst 2, 53, 0, 0, 2) := by decide +kernel
theorem k165_53 : icode MCl 165 53 = some (.iadd, 54, 0, 0, 0) := by decide +kernel
theorem k165_54 : icode MCl 165 54 = some (.iaload, 55, 0, 0, 0) := by decide +kernel
theorem k165_55 : icode MCl 165 55 = some (.if_icmp .ne 7, 58, 62, 0, 0) := by decide +kernel
theorem k165_58 : icode MCl 165 58 = some (.iconst 1, 59, 0, 0, 1) := by decide +kernel
theorem k165_59 : icode MCl 165 59 = some (.goto 4, 62, 63, 0, 0) := by decide +kernel
theorem k165_62 : icode MCl 165 62 = some (.iconst 0, 63, 0, 0, 0) := by decide +kernel
theorem k165_63 : icode MCl 165 63 = some (.istore_n 3, 64, 0, 0, 0) := by decide +kernel
theorem k165_64 : icode MCl 165 64 = some (.iinc 4 1, 67, 0, 0, 1) := by decide +kernel
theorem k165_67 : icode MCl 165 67 = some (.goto (-62), 70, 5, 0, 0) := by decide +kernel
theorem k165_70 : icode MCl 165 70 = some (.iload_n 3, 71, 0, 0, 0) := by decide +kernel
theorem k165_71 : icode MCl 165 71 = some (.ireturn, 72, 0, 0, 0) := by decide +kernel
theorem k166_0 : icode MCl 166 0 = some (.aload_n 0, 1, 0, 0, 0) := by decide +kernel
theorem k166_1 : icode MCl 166 1 = some (.iload_n 1, 2, 0, 0, 0) := by decide +kernel
theorem k166_2 : icode MCl 166 2 = some (.invokevirtual 139, 5, 78, 902, 0) := by decide +kernel
theorem k166_5 : icode MCl 166 5 = some (.ifCond .ne 5, 8, 10, 0, 0) := by decide +kernel
theorem k166_8 : icode MCl 166 8 = some (.iconst (-1), 9, 0, 0, (-1)) := by decide +kernel
theorem k166_9 : icode MCl 166 9 = some (.ireturn, 10, 0, 0, 0) := by decide +kernel
theorem k166_10 : icode MCl 166 10 = some (.iconst 0, 11, 0, 0, 0) := by decide +kernel
theorem k166_11 : icode MCl 166 11 = some (.istore_n 2, 12, 0, 0, 0) := by decide +kernel
theorem k166_12 : icode MCl 166 12 = some (.iconst 0, 13, 0, 0, 0) := by decide +kernel
theorem k166_13 : icode MCl 166 13 = some (.istore_n 3, 14, 0, 0, 0) := by decide +kernel
theorem k166_14 : icode MCl 166 14 = some (.iload_n 3, 15, 0, 0, 0) := by decide +kernel
theorem k166_15 : icode MCl 166 15 = some (.iconst 4, 16, 0, 0, 4) := by decide +kernel
theorem k166_16 : icode MCl 166 16 = some (.if_icmp .gt 28, 19, 44, 0, 0) := by decide +kernel
theorem k166_19 : icode MCl 166 19 = some (.iload_n 2, 20, 0, 0, 0) := by decide +kernel
theorem k166_20 : icode MCl 166 20 = some (.aload_n 0, 21, 0, 0, 0) := by decide +kernel
theorem k166_21 : icode MCl 166 21 = some (.iload_n 1, 22, 0, 0, 0) := by decide +kernel
theorem k166_22 : icode MCl 166 22 = some (.iload_n 3, 23, 0, 0, 0) := by decide +kernel
theorem k166_23 : icode MCl 166 23 = some (.invokevirtual 201, 26, 165, 1042, 0) := by decide +kernel
theorem k166_26 : icode MCl 166 26 = some (.ifCond .eq 9, 29, 35, 0, 0) := by decide +kernel
theorem k166_29 : icode MCl 166 29 = some (.iconst 1, 30, 0, 0, 1) := by decide +kernel
theorem k166_30 : icode MCl 166 30 = some (.iload_n 3, 31, 0, 0, 0) := by decide +kernel
theorem k166_31 : icode MCl 166 31 = some (.ishl, 32, 0, 0, 0) := by decide +kernel
theorem k166_32 : icode MCl 166 32 = some (.goto 4, 35, 36, 0, 0) := by decide +kernel
theorem k166_35 : icode MCl 166 35 = some (.iconst 0, 36, 0, 0, 0) := by decide +kernel
theorem k166_36 : icode MCl 166 36 = some (.ior, 37, 0, 0, 0) := by decide +kernel
theorem k166_37 : icode MCl 166 37 = some (.istore_n 2, 38, 0, 0, 0) := by decide +kernel
theorem k166_38 : icode MCl 166 38 = some (.iinc 3 1, 41, 0, 0, 1) := by decide +kernel
theorem k166_41 : icode MCl 166 41 = some (.goto (-27), 44, 14, 0, 0) := by decide +kernel
theorem k166_44 : icode MCl 166 44 = some (.iload_n 2, 45, 0, 0, 0) := by decide +kernel
theorem k166_45 : icode MCl 166 45 = some (.ireturn, 46, 0, 0, 0) := by decide +kernel
theorem k167_0 : icode MCl 167 0 = some (.aload_n 0, 1, 0, 0, 0) := by decide +kernel
theorem k167_1 : icode MCl 167 1 = some (.getfield 57, 4, 707, 416, 1) := by decide +kernel
theorem k167_4 : icode MCl 167 4 = some (.aload_n 0, 5, 0, 0, 0) := by decide +kernel
theorem k167_5 : icode MCl 167 5 = some (.getfield 28, 8, 702, 411, 1) := by decide +kernel
theorem k167_8 : icode MCl 167 8 = some (.iconst (-1), 9, 0, 0, (-1)) := by decide +kernel
theorem k167_9 : icode MCl 167 9 = some (.iconst 0, 10, 0, 0, 0) := by decide +kernel
theorem k167_10 : icode MCl 167 10 = some (.invokevirtual 211, 13, 162, 684, 0) := by decide +kernel
theorem k167_13 : icode MCl 167 13 = some (.ifCond .eq 9, 16, 22, 0, 0) := by decide +kernel
theorem k167_16 : icode MCl 167 16 = some (.sipush 512, 19, 0, 0, 512) := by decide +kernel
theorem k167_19 : icode MCl 167 19 = some (.goto 4, 22, 23, 0, 0) := by decide +kernel
theorem k167_22 : icode MCl 167 22 = some (.iconst 0, 23, 0, 0, 0) := by decide +kernel
theorem k167_23 : icode MCl 167 23 = some (.istore_n 1, 24, 0, 0, 0) := by decide +kernel
theorem k167_24 : icode MCl 167 24 = some (.iconst 0, 25, 0, 0, 0) := by decide +kernel
theorem k167_25 : icode MCl 167 25 = some (.istore_n 2, 26, 0, 0, 0) := by decide +kernel
theorem k167_26 : icode MCl 167 26 = some (.iload_n 2, 27, 0, 0, 0) := by decide +kernel
theorem k167_27 : icode MCl 167 27 = some (.aload_n 0, 28, 0, 0, 0) := by decide +kernel
theorem k167_28 : icode MCl 167 28 = some (.getfield 28, 31, 702, 411, 1) := by decide +kernel
theorem k167_31 : icode MCl 167 31 = some (.invokevirtual 92, 34, 72, 453, 0) := by decide +kernel
theorem k167_34 : icode MCl 167 34 = some (.if_icmp .ge 38, 37, 72, 0, 0) := by decide +kernel
theorem k167_37 : icode MCl 167 37 = some (.aload_n 0, 38, 0, 0, 0) := by decide +kernel
theorem k167_38 : icode MCl 167 38 = some (.iload_n 2, 39, 0, 0, 0) := by decide +kernel
theorem k167_39 : icode MCl 167 39 = some (.invokevirtual 208, 42, 163, 680, 0) := by decide +kernel
theorem k167_42 : icode MCl 167 42 = some (.iconst 1, 43, 0, 0, 1) := by decide +kernel
theorem k167_43 : icode MCl 167 43 = some (.aload_n 0, 44, 0, 0, 0) := by decide +kernel
theorem k167_44 : icode MCl 167 44 = some (.getfield 28, 47, 702, 411, 1) := by decide +kernel
theorem k167_47 : icode MCl 167 47 = some (.iload_n 2, 48, 0, 0, 0) := by decide +kernel
theorem k167_48 : icode MCl 167 48 = some (.invokevirtual 98, 51, 41, 462, 0) := by decide +kernel
theorem k167_51 : icode MCl 167 51 = some (.ishl, 52, 0, 0, 0) := by decide +kernel
theorem k167_52 : icode MCl 167 52 = some (.iconst (-1), 53, 0, 0, (-1)) := by decide +kernel
theorem k167_53 : icode MCl 167 53 = some (.ixor, 54, 0, 0, 0) := by decide +kernel
theorem k167_54 : icode MCl 167 54 = some (.iand, 55, 0, 0, 0) := by decide +kernel
theorem k167_55 : icode MCl 167 55 = some (.istore_n 3, 56, 0, 0, 0) := by decide +kernel
theorem k167_56 : icode MCl 167 56 = some (.iload_n 3, 57, 0, 0, 0) := by decide +kernel
theorem k167_57 : icode MCl 167 57 = some (.ifCond .eq 9, 60, 66, 0, 0) := by decide +kernel
theorem k167_60 : icode MCl 167 60 = some (.iload_n 1, 61, 0, 0, 0) := by decide +kernel
theorem k167_61 : icode MCl 167 61 = some (.iconst 1, 62, 0, 0, 1) := by decide +kernel
theorem k167_62 : icode MCl 167 62 = some (.iload_n 2, 63, 0, 0, 0) := by decide +kernel
theorem k167_63 : icode MCl 167 63 = some (.ishl, 64, 0, 0, 0) := by decide +kernel
theorem k167_64 : icode MCl 167 64 = some (.ior, 65, 0, 0, 0) := by decide +kernel
theorem k167_65 : icode MCl 167 65 = some (.istore_n 1, 66, 0, 0, 0) := by decide +kernel
theorem k167_66 : icode MCl 167 66 = some (.iinc 2 1, 69, 0, 0, 1) := by decide +kernel
theorem k167_69 : icode MCl 167 69 = some (.goto (-43), 72, 26, 0, 0) := by decide +kernel
theorem k167_72 : icode MCl 167 72 = some (.iload_n 1, 73, 0, 0, 0) := by decide +kernel
theorem k167_73 : icode MCl 167 73 = some (.ireturn, 74, 0, 0, 0) := by decide +kernel
theorem k168_0 : icode MCl 168 0 = some (.aload_n 0, 1, 0, 0, 0) := by decide +kernel
theorem k168_1 : icode MCl 168 1 = some (.iconst (-1), 2, 0, 0, (-1)) := by decide +kernel
theorem k168_2 : icode MCl 168 2 = some (.iconst 0, 3, 0, 0, 0) := by decide +kernel
theorem k168_3 : icode MCl 168 3 = some (.invokevirtual 201, 6, 165, 1042, 0) := by decide +kernel
theorem k168_6 : icode MCl 168 6 = some (.ifCond .eq 9, 9, 15, 0, 0) := by decide +kernel
theorem k168_9 : icode MCl 168 9 = some (.sipush 512, 12, 0, 0, 512) := by decide +kernel
theorem k168_12 : icode MCl 168 12 = some (.goto 4, 15, 16, 0, 0) := by decide +kernel
theorem k168_15 : icode MCl 168 15 = some (.iconst 0, 16, 0, 0, 0) := by decide +kernel
theorem k168_16 : icode MCl 168 16 = some (.istore_n 1, 17, 0, 0, 0) := by decide +kernel
theorem k168_17 : icode MCl 168 17 = some (.iconst 0, 18, 0, 0, 0) := by decide +kernel
theorem k168_18 : icode MCl 168 18 = some (.istore_n 2, 19, 0, 0, 0) := by decide +kernel
theorem k168_19 : icode MCl 168 19 = some (.iload_n 2, 20, 0, 0, 0) := by decide +kernel
theorem k168_20 : icode MCl 168 20 = some (.aload_n 0, 21, 0, 0, 0) := by decide +kernel
theorem k168_21 : icode MCl 168 21 = some (.getfield 119, 24, 812, 787, 0) := by decide +kernel
theorem k168_24 : icode MCl 168 24 = some (.if_icmp .ge 51, 27, 75, 0, 0) := by decide +kernel
theorem k168_27 : icode MCl 168 27 = some (.iconst 0, 28, 0, 0, 0) := by decide +kernel
theorem k168_28 : icode MCl 168 28 = some (.istore_n 3, 29, 0, 0, 0) := by decide +kernel
theorem k168_29 : icode MCl 168 29 = some (.iload_n 3, 30, 0, 0, 0) := by decide +kernel
theorem k168_30 : icode MCl 168 30 = some (.iconst 4, 31, 0, 0, 4) := by decide +kernel
theorem k168_31 : icode MCl 168 31 = some (.if_icmp .gt 38, 34, 69, 0, 0) := by decide +kernel
theorem k168_34 : icode MCl 168 34 = some (.iload_n 1, 35, 0, 0, 0) := by decide +kernel
theorem k168_35 : icode MCl 168 35 = some (.iload_n 3, 36, 0, 0, 0) := by decide +kernel
theorem k168_36 : icode MCl 168 36 = some (.aload_n 0, 37, 0, 0, 0) := by decide +kernel
theorem k168_37 : icode MCl 168 37 = some (.getfield 31, 40, 813, 788, 1) := by decide +kernel
theorem k168_40 : icode MCl 168 40 = some (.iload_n 2, 41, 0, 0, 0) := by decide +kernel
theorem k168_41 : icode MCl 168 41 = some (.iaload, 42, 0, 0, 0) := by decide +kernel
theorem k168_42 : icode MCl 168 42 = some (.if_icmp .eq 18, 45, 60, 0, 0) := by decide +kernel
theorem k168_45 : icode MCl 168 45 = some (.aload_n 0, 46, 0, 0, 0) := by decide +kernel
theorem k168_46 : icode MCl 168 46 = some (.iload_n 2, 47, 0, 0, 0) := by decide +kernel
theorem k168_47 : icode MCl 168 47 = some (.iload_n 3, 48, 0, 0, 0) := by decide +kernel
theorem k168_48 : icode MCl 168 48 = some (.invokevirtual 201, 51, 165, 1042, 0) := by decide +kernel
theorem k168_51 : icode MCl 168 51 = some (.ifCond .eq 9, 54, 60, 0, 0) := by decide +kernel
theorem k168_54 : icode MCl 168 54 = some (.iconst 1, 55, 0, 0, 1) := by decide +kernel
theorem k168_55 : icode MCl 168 55 = some (.iload_n 2, 56, 0, 0, 0) := by decide +kernel
theorem k168_56 : icode MCl 168 56 = some (.ishl, 57, 0, 0, 0) := by decide +kernel
theorem k168_57 : icode MCl 168 57 = some (.goto 4, 60, 61, 0, 0) := by decide +kernel
theorem k168_60 : icode MCl 168 60 = some (.iconst 0, 61, 0, 0, 0) := by decide +kernel
theorem k168_61 : icode MCl 168 61 = some (.ior, 62, 0, 0, 0) := by decide +kernel
theorem k168_62 : icode MCl 168 62 = some (.istore_n 1, 63, 0, 0, 0) := by decide +kernel
theorem k168_63 : icode MCl 168 63 = some (.iinc 3 1, 66, 0, 0, 1) := by decide +kernel
theorem k168_66 : icode MCl 168 66 = some (.goto (-37), 69, 29, 0, 0) := by decide +kernel
theorem k168_69 : icode MCl 168 69 = some (.iinc 2 1, 72, 0, 0, 1) := by decide +kernel
theorem k168_72 : icode MCl 168 72 = some (.goto (-53), 75, 19, 0, 0) := by decide +kernel
theorem k168_75 : icode MCl 168 75 = some (.iload_n 1, 76, 0, 0, 0) := by decide +kernel
theorem k168_76 : icode MCl 168 76 = some (.ireturn, 77, 0, 0, 0) := by decide +kernel
theorem k169_0 : icode MCl 169 0 = some (.iload_n 0, 1, 0, 0, 0) := by decide +kernel
theorem k169_1 : icode MCl 169 1 = some (.invokestatic 14, 4, 86, 495, 0) := by decide +kernel
theorem k169_4 : icode MCl 169 4 = some (.istore_n 1, 5, 0, 0, 0) := by decide +kernel
theorem k169_5 : icode MCl 169 5 = some (.iload_n 1, 6, 0, 0, 0) := by decide +kernel
theorem k169_6 : icode MCl 169 6 = some (.ifCond .ne 7, 9, 13, 0, 0) := by decide +kernel
theorem k169_9 : icode MCl 169 9 = some (.iconst 0, 10, 0, 0, 0) := by decide +kernel
theorem k169_10 : icode MCl 169 10 = some (.goto 18, 13, 28, 0, 0) := by decide +kernel
theorem k169_13 : icode MCl 169 13 = some (.iload_n 0, 14, 0, 0, 0) := by decide +kernel
theorem k169_14 : icode MCl 169 14 = some (.iload_n 0, 15, 0, 0, 0) := by decide +kernel
theorem k169_15 : icode MCl 169 15 = some (.iload_n 1, 16, 0, 0, 0) := by decide +kernel
theorem k169_16 : icode MCl 169 16 = some (.iconst 1, 17, 0, 0, 1) := by decide +kernel
theorem k169_17 : icode MCl 169 17 = some (.isub, 18, 0, 0, 0) := by decide +kernel
theorem k169_18 : icode MCl 169 18 = some (.invokestatic 20, 21, 87, 498, 0) := by decide +kernel
theorem k169_21 : icode MCl 169 21 = some (.iconst 2, 22, 0, 0, 2) := by decide +kernel
theorem k169_22 : icode MCl 169 22 = some (.iload_n 1, 23, 0, 0, 0) := by decide +kernel
theorem k169_23 : icode MCl 169 23 = some (.iconst 1, 24, 0, 0, 1) := by decide +kernel
theorem k169_24 : icode MCl 169 24 = some (.isub, 25, 0, 0, 0) := by decide +kernel
theorem k169_25 : icode MCl 169 25 = some (.imul, 26, 0, 0, 0) := by decide +kernel
theorem k169_26 : icode MCl 169 26 = some (.ishl, 27, 0, 0, 0) := by decide +kernel
theorem k169_27 : icode MCl 169 27 = some (.isub, 28, 0, 0, 0) := by decide +kernel
theorem k169_28 : icode MCl 169 28 = some (.ireturn, 29, 0, 0, 0) := by decide +kernel
theorem k170_0 : icode MCl 170 0 = some (.iload 5, 2, 0, 0, 0) := by decide +kernel
theorem k170_2 : icode MCl 170 2 = some (.bipush 9, 4, 0, 0, 9) := by decide +kernel
theorem k170_4 : icode MCl 170 4 = some (.if_icmp .lt 5, 7, 9, 0, 0) := by decide +kernel
theorem k170_7 : icode MCl 170 7 = some (.lconst 0, 8, 0, 0, 0) := by decide +kernel
theorem k170_8 : icode MCl 170 8 = some (.lreturn, 9, 0, 0, 0) := by decide +kernel
theorem k170_9 : icode MCl 170 9 = some (.aload_n 0, 10, 0, 0, 0) := by decide +kernel
theorem k170_10 : icode MCl 170 10 = some (.getfield 28, 13, 702, 411, 1) := by decide +kernel
theorem k170_13 : icode MCl 170 13 = some (.iload_n 1, 14, 0, 0, 0) := by decide +kernel
theorem k170_14 : icode MCl 170 14 = some (.invokevirtual 98, 17, 41, 462, 0) := by decide +kernel
theorem k170_17 : icode MCl 170 17 = some (.istore 6, 19, 0, 0, 0) := by decide +kernel
theorem k170_19 : icode MCl 170 19 = some (.iload 6, 21, 0, 0, 0) := by decide +kernel
theorem k170_21 : icode MCl 170 21 = some (.iload_n 2, 22, 0, 0, 0) := by decide +kernel
theorem k170_22 : icode MCl 170 22 = some (.invokestatic 145, 25, 92, 501, 0) := by decide +kernel
theorem k170_25 : icode MCl 170 25 = some (.istore 7, 27, 0, 0, 0) := by decide +kernel
theorem k170_27 : icode MCl 170 27 = some (.iload 6, 29, 0, 0, 0) := by decide +kernel
theorem k170_29 : icode MCl 170 29 = some (.iload_n 2, 30, 0, 0, 0) := by decide +kernel
theorem k170_30 : icode MCl 170 30 = some (.invokestatic 246, 33, 169, 702, 0) := by decide +kernel
theorem k170_33 : icode MCl 170 33 = some (.invokestatic 145, 36, 92, 501, 0) := by decide +kernel
theorem k170_36 : icode MCl 170 36 = some (.istore 8, 38, 0, 0, 0) := by decide +kernel
theorem k170_38 : icode MCl 170 38 = some (.aload_n 0, 39, 0, 0, 0) := by decide +kernel
theorem k170_39 : icode MCl 170 39 = some (.getfield 28, 42, 702, 411, 1) := by decide +kernel
theorem k170_42 : icode MCl 170 42 = some (.iload_n 1, 43, 0, 0, 0) := by decide +kernel
theorem k170_43 : icode MCl 170 43 = some (.invokevirtual 249, 46, 101, 705, 0) := by decide +kernel
theorem k170_46 : icode MCl 170 46 = some (.ifCond .eq 33, 49, 79, 0, 0) := by decide +kernel
theorem k170_49 : icode MCl 170 49 = some (.iload 7, 51, 0, 0, 0) := by decide +kernel
theorem k170_51 : icode MCl 170 51 = some (.iload 4, 53, 0, 0, 0) := by decide +kernel
theorem k170_53 : icode MCl 170 53 = some (.if_icmp .ne 10, 56, 63, 0, 0) := by decide +kernel
theorem k170_56 : icode MCl 170 56 = some (.bipush 10, 58, 0, 0, 10) := by decide +kernel
theorem k170_58 : icode MCl 170 58 = some (.iload_n 3, 59, 0, 0, 0) := by decide +kernel
theorem k170_59 : icode MCl 170 59 = some (.isub, 60, 0, 0, 0) := by decide +kernel
theorem k170_60 : icode MCl 170 60 = some (.goto 4, 63, 64, 0, 0) := by decide +kernel
theorem k170_63 : icode MCl 170 63 = some (.iconst 0, 64, 0, 0, 0) := by decide +kernel
theorem k170_64 : icode MCl 170 64 = some (.iload 8, 66, 0, 0, 0) := by decide +kernel
theorem k170_66 : icode MCl 170 66 = some (.iload 4, 68, 0, 0, 0) := by decide +kernel
theorem k170_68 : icode MCl 170 68 = some (.if_icmp .ne 7, 71, 75, 0, 0) := by decide +kernel
theorem k170_71 : icode MCl 170 71 = some (.iload_n 3, 72, 0, 0, 0) := by decide +kernel
theorem k170_72 : icode MCl 170 72 = some (.goto 4, 75, 76, 0, 0) := by decide +kernel
theorem k170_75 : icode MCl 170 75 = some (.iconst 0, 76, 0, 0, 0) := by decide +kernel
theorem k170_76 : icode MCl 170 76 = some (.iadd, 77, 0, 0, 0) := by decide +kernel
theorem k170_77 : icode MCl 170 77 = some (.i2l, 78, 0, 0, 0) := by decide +kernel
theorem k170_78 : icode MCl 170 78 = some (.lreturn, 79, 0, 0, 0) := by decide +kernel
theorem k170_79 : icode MCl 170 79 = some (.aload_n 0, 80, 0, 0, 0) := by decide +kernel
theorem k170_80 : icode MCl 170 80 = some (.getfield 28, 83, 702, 411, 1) := by decide +kernel
theorem k170_83 : icode MCl 170 83 = some (.iload_n 1, 84, 0, 0, 0) := by decide +kernel
theorem k170_84 : icode MCl 170 84 = some (.invokevirtual 105, 87, 43, 464, 0) := by decide +kernel
theorem k170_87 : icode MCl 170 87 = some (.istore 9, 89, 0, 0, 0) := by decide +kernel
theorem k170_89 : icode MCl 170 89 = some (.bipush 10, 91, 0, 0, 10) := by decide +kernel
theorem k170_91 : icode MCl 170 91 = some (.iload_n 3, 92, 0, 0, 0) := by decide +kernel
theorem k170_92 : icode MCl 170 92 = some (.isub, 93, 0, 0, 0) := by decide +kernel
theorem k170_93 : icode MCl 170 93 = some (.i2l, 94, 0, 0, 0) := by decide +kernel
theorem k170_94 : icode MCl 170 94 = some (.aload_n 0, 95, 0, 0, 0) := by decide +kernel
theorem k170_95 : icode MCl 170 95 = some (.iload 9, 97, 0, 0, 0) := by decide +kernel
theorem k170_97 : icode MCl 170 97 = some (.iload 7, 99, 0, 0, 0) := by decide +kernel
theorem k170_99 : icode MCl 170 99 = some (.iload_n 3, 100, 0, 0, 0) := by decide +kernel
theorem k170_100 : icode MCl 170 100 = some (.iload 4, 102, 0, 0, 0) := by decide +kernel
theorem k170_102 : icode MCl 170 102 = some (.iload 5, 104, 0, 0, 0) := by decide +kernel
theorem k170_104 : icode MCl 170 104 = some (.iconst 1, 105, 0, 0, 1) := by decide +kernel
theorem k170_105 : icode MCl 170 105 = some (.iadd, 106, 0, 0, 0) := by decide +kernel
theorem k170_106 : icode MCl 170 106 = some (.invokevirtual 215, 109, 170, 698, 0) := by decide +kernel
theorem k170_109 : icode MCl 170 109 = some (.lmul, 110, 0, 0, 0) := by decide +kernel
theorem k170_110 : icode MCl 170 110 = some (.iload_n 3, 111, 0, 0, 0) := by decide +kernel
theorem k170_111 : icode MCl 170 111 = some (.i2l, 112, 0, 0, 0) := by decide +kernel
theorem k170_112 : icode MCl 170 112 = some (.aload_n 0, 113, 0, 0, 0) := by decide +kernel
theorem k170_113 : icode MCl 170 113 = some (.iload 9, 115, 0, 0, 0) := by decide +kernel
theorem k170_115 : icode MCl 170 115 = some (.iload 8, 117, 0, 0, 0) := by decide +kernel
theorem k170_117 : icode MCl 170 117 = some (.iload_n 3, 118, 0, 0, 0) := by decide +kernel
theorem k170_118 : icode MCl 170 118 = some (.iload 4, 120, 0, 0, 0) := by decide +kernel
theorem k170_120 : icode MCl 170 120 = some (.iload 5, 122, 0, 0, 0) := by decide +kernel
theorem k170_122 : icode MCl 170 122 = some (.iconst 1, 123, 0, 0, 1) := by decide +kernel
theorem k170_123 : icode MCl 170 123 = some (.iadd, 124, 0, 0, 0) := by decide +kernel
theorem k170_124 : icode MCl 170 124 = some (.invokevirtual 215, 127, 170, 698, 0) := by decide +kernel
theorem k170_127 : icode MCl 170 127 = some (.lmul, 128, 0, 0, 0) := by decide +kernel
theorem k170_128 : icode MCl 170 128 = some (.ladd, 129, 0, 0, 0) := by decide +kernel
theorem k170_129 : icode MCl 170 129 = some (.lreturn, 130, 0, 0, 0) := by decide +kernel
theorem k171_0 : icode MCl 171 0 = some (.aload_n 0, 1, 0, 0, 0) := by decide +kernel
theorem k171_1 : icode MCl 171 1 = some (.iload_n 1, 2, 0, 0, 0) := by decide +kernel
theorem k171_2 : icode MCl 171 2 = some (.invokevirtual 67, 5, 127, 602, 0) := by decide +kernel
theorem k171_5 : icode MCl 171 5 = some (.invokestatic 74, 8, 143, 710, 0) := by decide +kernel
theorem k171_8 : icode MCl 171 8 = some (.ireturn, 9, 0, 0, 0) := by decide +kernel
theorem k172_0 : icode MCl 172 0 = some (.lload_n 0, 1, 0, 0, 0) := by decide +kernel
theorem k172_1 : icode MCl 172 1 = some (.lstore 4, 3, 0, 0, 0) := by decide +kernel
theorem k172_3 : icode MCl 172 3 = some (.lload_n 2, 4, 0, 0, 0) := by decide +kernel
theorem k172_4 : icode MCl 172 4 = some (.lstore 6, 6, 0, 0, 0) := by decide +kernel
theorem k172_6 : icode MCl 172 6 = some (.iconst 0, 7, 0, 0, 0) := by decide +kernel
theorem k172_7 : icode MCl 172 7 = some (.istore 8, 9, 0, 0, 0) := by decide +kernel
theorem k172_9 : icode MCl 172 9 = some (.iload 8, 11, 0, 0, 0) := by decide +kernel
theorem k172_11 : icode MCl 172 11 = some (.bipush 100, 13, 0, 0, 100) := by decide +kernel
theorem k172_13 : icode MCl 172 13 = some (.if_icmp .ge 31, 16, 44, 0, 0) := by decide +kernel
theorem k172_16 : icode MCl 172 16 = some (.lload 6, 18, 0, 0, 0) := by decide +kernel
theorem k172_18 : icode MCl 172 18 = some (.lconst 0, 19, 0, 0, 0) := by decide +kernel
theorem k172_19 : icode MCl 172 19 = some (.lcmp, 20, 0, 0, 0) := by decide +kernel
theorem k172_20 : icode MCl 172 20 = some (.ifCond .eq 24, 23, 44, 0, 0) := by decide +kernel
theorem k172_23 : icode MCl 172 23 = some (.lload 4, 25, 0, 0, 0) := by decide +kernel
theorem k172_25 : icode MCl 172 25 = some (.lload 6, 27, 0, 0, 0) := by decide +kernel
theorem k172_27 : icode MCl 172 27 = some (.lrem, 28, 0, 0, 0) := by decide +kernel
theorem k172_28 : icode MCl 172 28 = some (.lstore 9, 30, 0, 0, 0) := by decide +kernel
theorem k172_30 : icode MCl 172 30 = some (.lload 6, 32, 0, 0, 0) := by decide +kernel
theorem k172_32 : icode MCl 172 32 = some (.lstore 4, 34, 0, 0, 0) := by decide +kernel
theorem k172_34 : icode MCl 172 34 = some (.lload 9, 36, 0, 0, 0) := by decide +kernel
theorem k172_36 : icode MCl 172 36 = some (.lstore 6, 38, 0, 0, 0) := by decide +kernel
theorem k172_38 : icode MCl 172 38 = some (.iinc 8 1, 41, 0, 0, 1) := by decide +kernel
theorem k172_41 : icode MCl 172 41 = some (.goto (-32), 44, 9, 0, 0) := by decide +kernel
theorem k172_44 : icode MCl 172 44 = some (.lload 4, 46, 0, 0, 0) := by decide +kernel
theorem k172_46 : icode MCl 172 46 = some (.lreturn, 47, 0, 0, 0) := by decide +kernel
theorem k173_0 : icode MCl 173 0 = some (.aload_n 0, 1, 0, 0, 0) := by decide +kernel
theorem k173_1 : icode MCl 173 1 = some (.getfield 28, 4, 702, 411, 1) := by decide +kernel
theorem k173_4 : icode MCl 173 4 = some (.iload_n 1, 5, 0, 0, 0) := by decide +kernel
theorem k173_5 : icode MCl 173 5 = some (.invokevirtual 95, 8, 29, 461, 0) := by decide +kernel
theorem k173_8 : icode MCl 173 8 = some (.ifCond .eq 30, 11, 38, 0, 0) := by decide +kernel
theorem k173_11 : icode MCl 173 11 = some (.iload_n 2, 12, 0, 0, 0) := by decide +kernel
theorem k173_12 : icode MCl 173 12 = some (.invokestatic 163, 15, 88, 558, 0) := by decide +kernel
theorem k173_15 : icode MCl 173 15 = some (.ifCond .eq 23, 18, 38, 0, 0) := by decide +kernel
theorem k173_18 : icode MCl 173 18 = some (.iload_n 3, 19, 0, 0, 0) := by decide +kernel
theorem k173_19 : icode MCl 173 19 = some (.iconst 0, 20, 0, 0, 0) := by decide +kernel
theorem k173_20 : icode MCl 173 20 = some (.bipush 10, 22, 0, 0, 10) := by decide +kernel
theorem k173_22 : icode MCl 173 22 = some (.invokestatic 86, 25, 22, 439, 0) := by decide +kernel
theorem k173_25 : icode MCl 173 25 = some (.ifCond .eq 13, 28, 38, 0, 0) := by decide +kernel
theorem k173_28 : icode MCl 173 28 = some (.iload 4, 30, 0, 0, 0) := by decide +kernel
theorem k173_30 : icode MCl 173 30 = some (.iconst 0, 31, 0, 0, 0) := by decide +kernel
theorem k173_31 : icode MCl 173 31 = some (.iconst 1, 32, 0, 0, 1) := by decide +kernel
theorem k173_32 : icode MCl 173 32 = some (.invokestatic 86, 35, 22, 439, 0) := by decide +kernel
theorem k173_35 : icode MCl 173 35 = some (.ifCond .ne 5, 38, 40, 0, 0) := by decide +kernel
theorem k173_38 : icode MCl 173 38 = some (.iconst (-1), 39, 0, 0, (-1)) := by decide +kernel
theorem k173_39 : icode MCl 173 39 = some (.ireturn, 40, 0, 0, 0) := by decide +kernel
theorem k173_40 : icode MCl 173 40 = some (.aload_n 0, 41, 0, 0, 0) := by decide +kernel
theorem k173_41 : icode MCl 173 41 = some (.iload_n 1, 42, 0, 0, 0) := by decide +kernel
theorem k173_42 : icode MCl 173 42 = some (.iload_n 2, 43, 0, 0, 0) := by decide +kernel
theorem k173_43 : icode MCl 173 43 = some (.iload_n 3, 44, 0, 0, 0) := by decide +kernel
theorem k173_44 : icode MCl 173 44 = some (.aload_n 0, 45, 0, 0, 0) := by decide +kernel
theorem k173_45 : icode MCl 173 45 = some (.getfield 28, 48, 702, 411, 1) := by decide +kernel
theorem k173_48 : icode MCl 173 48 = some (.iload_n 1, 49, 0, 0, 0) := by decide +kernel
theorem k173_49 : icode MCl 173 49 = some (.iload_n 2, 50, 0, 0, 0) := by decide +kernel
theorem k173_50 : icode MCl 173 50 = some (.invokevirtual 177, 53, 126, 588, 0) := by decide +kernel
theorem k173_53 : icode MCl 173 53 = some (.iconst 0, 54, 0, 0, 0) := by decide +kernel
theorem k173_54 : icode MCl 173 54 = some (.invokevirtual 215, 57, 170, 698, 0) := by decide +kernel
theorem k173_57 : icode MCl 173 57 = some (.lstore 5, 59, 0, 0, 0) := by decide +kernel
theorem k173_59 : icode MCl 173 59 = some (.lconst 1, 60, 0, 0, 1) := by decide +kernel
theorem k173_60 : icode MCl 173 60 = some (.lstore 7, 62, 0, 0, 0) := by decide +kernel
theorem k173_62 : icode MCl 173 62 = some (.iconst 0, 63, 0, 0, 0) := by decide +kernel
theorem k173_63 : icode MCl 173 63 = some (.istore 9, 65, 0, 0, 0) := by decide +kernel
theorem k173_65 : icode MCl 173 65 = some (.iload 9, 67, 0, 0, 0) := by decide +kernel
theorem k173_67 : icode MCl 173 67 = some (.aload_n 0, 68, 0, 0, 0) := by decide +kernel
theorem k173_68 : icode MCl 173 68 = some (.getfield 28, 71, 702, 411, 1) := by decide +kernel
theorem k173_71 : icode MCl 173 71 = some (.iload_n 1, 72, 0, 0, 0) := by decide +kernel
theorem k173_72 : icode MCl 173 72 = some (.invokevirtual 219, 75, 171, 706, 0) := by decide +kernel
theorem k173_75 : icode MCl 173 75 = some (.if_icmp .ge 17, 78, 92, 0, 0) := by decide +kernel
theorem k173_78 : icode MCl 173 78 = some (.lload 7, 80, 0, 0, 0) := by decide +kernel
theorem k173_80 : icode MCl 173 80 = some (.ldc2_w 222, 83, 0, 711, 10) := by decide +kernel
theorem k173_83 : icode MCl 173 83 = some (.lmul, 84, 0, 0, 0) := by decide +kernel
theorem k173_84 : icode MCl 173 84 = some (.lstore 7, 86, 0, 0, 0) := by decide +kernel
theorem k173_86 : icode MCl 173 86 = some (.iinc 9 1, 89, 0, 0, 1) := by decide +kernel
theorem k173_89 : icode MCl 173 89 = some (.goto (-24), 92, 65, 0, 0) := by decide +kernel
theorem k173_92 : icode MCl 173 92 = some (.lload 5, 94, 0, 0, 0) := by decide +kernel
theorem k173_94 : icode MCl 173 94 = some (.lload 7, 96, 0, 0, 0) := by decide +kernel
theorem k173_96 : icode MCl 173 96 = some (.invokestatic 224, 99, 172, 712, 0) := by decide +kernel
theorem k173_99 : icode MCl 173 99 = some (.lstore 9, 101, 0, 0, 0) := by decide +kernel
theorem k173_101 : icode MCl 173 101 = some (.lload 9, 103, 0, 0, 0) := by decide +kernel
theorem k173_103 : icode MCl 173 103 = some (.lconst 1, 104, 0, 0, 1) := by decide +kernel
theorem k173_104 : icode MCl 173 104 = some (.lcmp, 105, 0, 0, 0) := by decide +kernel
theorem k173_105 : icode MCl 173 105 = some (.ifCond .ge 5, 108, 110, 0, 0) := by decide +kernel
theorem k173_108 : icode MCl 173 108 = some (.iconst (-1), 109, 0, 0, (-1)) := by decide +kernel
theorem k173_109 : icode MCl 173 109 = some (.ireturn, 110, 0, 0, 0) := by decide +kernel
theorem k173_110 : icode MCl 173 110 = some (.iload 4, 112, 0, 0, 0) := by decide +kernel
theorem k173_112 : icode MCl 173 112 = some (.ifCond .ne 8, 115, 120, 0, 0) := by decide +kernel
theorem k173_115 : icode MCl 173 115 = some (.lload 5, 117, 0, 0, 0) := by decide +kernel
theorem k173_117 : icode MCl 173 117 = some (.goto 5, 120, 122, 0, 0) := by decide +kernel
theorem k173_120 : icode MCl 173 120 = some (.lload 7, 122, 0, 0, 0) := by decide +kernel
theorem k173_122 : icode MCl 173 122 = some (.lload 9, 124, 0, 0, 0) := by decide +kernel
theorem k173_124 : icode MCl 173 124 = some (.ldiv, 125, 0, 0, 0) := by decide +kernel
theorem k173_125 : icode MCl 173 125 = some (.l2i, 126, 0, 0, 0) := by decide +kernel
theorem k173_126 : icode MCl 173 126 = some (.ireturn, 127, 0, 0, 0) := by decide +kernel
theorem k174_0 : icode MCl 174 0 = some (.iload_n 0, 1, 0, 0, 0) := by decide +kernel
theorem k174_1 : icode MCl 174 1 = some (.iload_n 0, 2, 0, 0, 0) := by decide +kernel
theorem k174_2 : icode MCl 174 2 = some (.invokestatic 77, 5, 95, 932, 0) := by decide +kernel
theorem k174_5 : icode MCl 174 5 = some (.ifCond .le 12, 8, 17, 0, 0) := by decide +kernel
theorem k174_8 : icode MCl 174 8 = some (.iload_n 0, 9, 0, 0, 0) := by decide +kernel
theorem k174_9 : icode MCl 174 9 = some (.invokestatic 77, 12, 95, 932, 0) := by decide +kernel
theorem k174_12 : icode MCl 174 12 = some (.iconst 1, 13, 0, 0, 1) := by decide +kernel
theorem k174_13 : icode MCl 174 13 = some (.isub, 14, 0, 0, 0) := by decide +kernel
theorem k174_14 : icode MCl 174 14 = some (.goto 4, 17, 18, 0, 0) := by decide +kernel
theorem k174_17 : icode MCl 174 17 = some (.iconst 0, 18, 0, 0, 0) := by decide +kernel
theorem k174_18 : icode MCl 174 18 = some (.invokestatic 81, 21, 96, 935, 0) := by decide +kernel
theorem k174_21 : icode MCl 174 21 = some (.irem, 22, 0, 0, 0) := by decide +kernel
theorem k174_22 : icode MCl 174 22 = some (.ireturn, 23, 0, 0, 0) := by decide +kernel
theorem k175_0 : icode MCl 175 0 = some (.iload_n 2, 1, 0, 0, 0) := by decide +kernel
theorem k175_1 : icode MCl 175 1 = some (.istore 4, 3, 0, 0, 0) := by decide +kernel
theorem k175_3 : icode MCl 175 3 = some (.iload_n 1, 4, 0, 0, 0) := by decide +kernel
theorem k175_4 : icode MCl 175 4 = some (.istore 5, 6, 0, 0, 0) := by decide +kernel
theorem k175_6 : icode MCl 175 6 = some (.iconst 1, 7, 0, 0, 1) := by decide +kernel
theorem k175_7 : icode MCl 175 7 = some (.istore 6, 9, 0, 0, 0) := by decide +kernel
theorem k175_9 : icode MCl 175 9 = some (.iconst 0, 10, 0, 0, 0) := by decide +kernel
theorem k175_10 : icode MCl 175 10 = some (.istore 7, 12, 0, 0, 0) := by decide +kernel
theorem k175_12 : icode MCl 175 12 = some (.iload 6, 14, 0, 0, 0) := by decide +kernel
theorem k175_14 : icode MCl 175 14 = some (.ifCond .eq 68, 17, 82, 0, 0) := by decide +kernel
theorem k175_17 : icode MCl 175 17 = some (.aload_n 0, 18, 0, 0, 0) := by decide +kernel
theorem k175_18 : icode MCl 175 18 = some (.getfield 31, 21, 813, 788, 1) := by decide +kernel
theorem k175_21 : icode MCl 175 21 = some (.iload 5, 23, 0, 0, 0) := by decide +kernel
theorem k175_23 : icode MCl 175 23 = some (.iaload, 24, 0, 0, 0) := by decide +kernel
theorem k175_24 : icode MCl 175 24 = some (.iload_n 3, 25, 0, 0, 0) := by decide +kernel
theorem k175_25 : icode MCl 175 25 = some (.iload 7, 27, 0, 0, 0) := by decide +kernel
theorem k175_27 : icode MCl 175 27 = some (.invokestatic 156, 30, 108, 954, 0) := by decide +kernel
theorem k175_30 : icode MCl 175 30 = some (.ifCond .eq 11, 33, 41, 0, 0) := by decide +kernel
theorem k175_33 : icode MCl 175 33 = some (.iload 4, 35, 0, 0, 0) := by decide +kernel
theorem k175_35 : icode MCl 175 35 = some (.invokestatic 204, 38, 174, 1058, 0) := by decide +kernel
theorem k175_38 : icode MCl 175 38 = some (.goto 5, 41, 43, 0, 0) := by decide +kernel
theorem k175_41 : icode MCl 175 41 = some (.iload 4, 43, 0, 0, 0) := by decide +kernel
theorem k175_43 : icode MCl 175 43 = some (.invokestatic 152, 46, 97, 929, 0) := by decide +kernel
theorem k175_46 : icode MCl 175 46 = some (.istore 4, 48, 0, 0, 0) := by decide +kernel
theorem k175_48 : icode MCl 175 48 = some (.aload_n 0, 49, 0, 0, 0) := by decide +kernel
theorem k175_49 : icode MCl 175 49 = some (.getfield 37, 52, 815, 790, 1) := by decide +kernel
theorem k175_52 : icode MCl 175 52 = some (.iload 5, 54, 0, 0, 0) := by decide +kernel
theorem k175_54 : icode MCl 175 54 = some (.iaload, 55, 0, 0, 0) := by decide +kernel
theorem k175_55 : icode MCl 175 55 = some (.iload 5, 57, 0, 0, 0) := by decide +kernel
theorem k175_57 : icode MCl 175 57 = some (.if_icmp .eq 7, 60, 64, 0, 0) := by decide +kernel
theorem k175_60 : icode MCl 175 60 = some (.iconst 1, 61, 0, 0, 1) := by decide +kernel
theorem k175_61 : icode MCl 175 61 = some (.goto 4, 64, 65, 0, 0) := by decide +kernel
theorem k175_64 : icode MCl 175 64 = some (.iconst 0, 65, 0, 0, 0) := by decide +kernel
theorem k175_65 : icode MCl 175 65 = some (.istore 6, 67, 0, 0, 0) := by decide +kernel
theorem k175_67 : icode MCl 175 67 = some (.aload_n 0, 68, 0, 0, 0) := by decide +kernel
theorem k175_68 : icode MCl 175 68 = some (.getfield 37, 71, 815, 790, 1) := by decide +kernel
theorem k175_71 : icode MCl 175 71 = some (.iload 5, 73, 0, 0, 0) := by decide +kernel
theorem k175_73 : icode MCl 175 73 = some (.iaload, 74, 0, 0, 0) := by decide +kernel
theorem k175_74 : icode MCl 175 74 = some (.istore 5, 76, 0, 0, 0) := by decide +kernel
theorem k175_76 : icode MCl 175 76 = some (.iinc 7 1, 79, 0, 0, 1) := by decide +kernel
theorem k175_79 : icode MCl 175 79 = some (.goto (-67), 82, 12, 0, 0) := by decide +kernel
theorem k175_82 : icode MCl 175 82 = some (.iload 4, 84, 0, 0, 0) := by decide +kernel
theorem k175_84 : icode MCl 175 84 = some (.ireturn, 85, 0, 0, 0) := by decide +kernel
theorem k176_0 : icode MCl 176 0 = some (.iload_n 0, 1, 0, 0, 0) := by decide +kernel
theorem k176_1 : icode MCl 176 1 = some (.istore_n 2, 2, 0, 0, 0) := by decide +kernel
theorem k176_2 : icode MCl 176 2 = some (.iload_n 1, 3, 0, 0, 0) := by decide +kernel
theorem k176_3 : icode MCl 176 3 = some (.istore_n 3, 4, 0, 0, 0) := by decide +kernel
theorem k176_4 : icode MCl 176 4 = some (.iload_n 3, 5, 0, 0, 0) := by decide +kernel
theorem k176_5 : icode MCl 176 5 = some (.ifCond .eq 16, 8, 21, 0, 0) := by decide +kernel
theorem k176_8 : icode MCl 176 8 = some (.iload_n 2, 9, 0, 0, 0) := by decide +kernel
theorem k176_9 : icode MCl 176 9 = some (.iload_n 3, 10, 0, 0, 0) := by decide +kernel
theorem k176_10 : icode MCl 176 10 = some (.irem, 11, 0, 0, 0) := by decide +kernel
theorem k176_11 : icode MCl 176 11 = some (.istore 4, 13, 0, 0, 0) := by decide +kernel
theorem k176_13 : icode MCl 176 13 = some (.iload_n 3, 14, 0, 0, 0) := by decide +kernel
theorem k176_14 : icode MCl 176 14 = some (.istore_n 2, 15, 0, 0, 0) := by decide +kernel
theorem k176_15 : icode MCl 176 15 = some (.iload 4, 17, 0, 0, 0) := by decide +kernel
theorem k176_17 : icode MCl 176 17 = some (.istore_n 3, 18, 0, 0, 0) := by decide +kernel
theorem k176_18 : icode MCl 176 18 = some (.goto (-14), 21, 4, 0, 0) := by decide +kernel
theorem k176_21 : icode MCl 176 21 = some (.iload_n 2, 22, 0, 0, 0) := by decide +kernel
theorem k176_22 : icode MCl 176 22 = some (.ireturn, 23, 0, 0, 0) := by decide +kernel
theorem k177_0 : icode MCl 177 0 = some (.aload_n 0, 1, 0, 0, 0) := by decide +kernel
theorem k177_1 : icode MCl 177 1 = some (.iload_n 1, 2, 0, 0, 0) := by decide +kernel
theorem k177_2 : icode MCl 177 2 = some (.invokevirtual 139, 5, 78, 902, 0) := by decide +kernel
theorem k177_5 : icode MCl 177 5 = some (.ifCond .eq 30, 8, 35, 0, 0) := by decide +kernel
theorem k177_8 : icode MCl 177 8 = some (.iload_n 2, 9, 0, 0, 0) := by decide +kernel
theorem k177_9 : icode MCl 177 9 = some (.invokestatic 149, 12, 94, 925, 0) := by decide +kernel
theorem k177_12 : icode MCl 177 12 = some (.ifCond .eq 23, 15, 35, 0, 0) := by decide +kernel
theorem k177_15 : icode MCl 177 15 = some (.iload_n 3, 16, 0, 0, 0) := by decide +kernel
theorem k177_16 : icode MCl 177 16 = some (.iconst 0, 17, 0, 0, 0) := by decide +kernel
theorem k177_17 : icode MCl 177 17 = some (.bipush 10, 19, 0, 0, 10) := by decide +kernel
theorem k177_19 : icode MCl 177 19 = some (.invokestatic 73, 22, 59, 855, 0) := by decide +kernel
theorem k177_22 : icode MCl 177 22 = some (.ifCond .eq 13, 25, 35, 0, 0) := by decide +kernel
theorem k177_25 : icode MCl 177 25 = some (.iload 4, 27, 0, 0, 0) := by decide +kernel
theorem k177_27 : icode MCl 177 27 = some (.iconst 0, 28, 0, 0, 0) := by decide +kernel
theorem k177_28 : icode MCl 177 28 = some (.iconst 1, 29, 0, 0, 1) := by decide +kernel
theorem k177_29 : icode MCl 177 29 = some (.invokestatic 73, 32, 59, 855, 0) := by decide +kernel
theorem k177_32 : icode MCl 177 32 = some (.ifCond .ne 5, 35, 37, 0, 0) := by decide +kernel
theorem k177_35 : icode MCl 177 35 = some (.iconst (-1), 36, 0, 0, (-1)) := by decide +kernel
theorem k177_36 : icode MCl 177 36 = some (.ireturn, 37, 0, 0, 0) := by decide +kernel
theorem k177_37 : icode MCl 177 37 = some (.iconst 1, 38, 0, 0, 1) := by decide +kernel
theorem k177_38 : icode MCl 177 38 = some (.istore 5, 40, 0, 0, 0) := by decide +kernel
theorem k177_40 : icode MCl 177 40 = some (.bipush 10, 42, 0, 0, 10) := by decide +kernel
theorem k177_42 : icode MCl 177 42 = some (.istore 6, 44, 0, 0, 0) := by decide +kernel
theorem k177_44 : icode MCl 177 44 = some (.iload_n 1, 45, 0, 0, 0) := by decide +kernel
theorem k177_45 : icode MCl 177 45 = some (.istore 7, 47, 0, 0, 0) := by decide +kernel
theorem k177_47 : icode MCl 177 47 = some (.aload_n 0, 48, 0, 0, 0) := by decide +kernel
theorem k177_48 : icode MCl 177 48 = some (.getfield 37, 51, 815, 790, 1) := by decide +kernel
theorem k177_51 : icode MCl 177 51 = some (.iload 7, 53, 0, 0, 0) := by decide +kernel
theorem k177_53 : icode MCl 177 53 = some (.iaload, 54, 0, 0, 0) := by decide +kernel
theorem k177_54 : icode MCl 177 54 = some (.iload 7, 56, 0, 0, 0) := by decide +kernel
theorem k177_56 : icode MCl 177 56 = some (.if_icmp .eq 25, 59, 81, 0, 0) := by decide +kernel
theorem k177_59 : icode MCl 177 59 = some (.iinc 5 1, 62, 0, 0, 1) := by decide +kernel
theorem k177_62 : icode MCl 177 62 = some (.iload 6, 64, 0, 0, 0) := by decide +kernel
theorem k177_64 : icode MCl 177 64 = some (.bipush 10, 66, 0, 0, 10) := by decide +kernel
theorem k177_66 : icode MCl 177 66 = some (.imul, 67, 0, 0, 0) := by decide +kernel
theorem k177_67 : icode MCl 177 67 = some (.istore 6, 69, 0, 0, 0) := by decide +kernel
theorem k177_69 : icode MCl 177 69 = some (.aload_n 0, 70, 0, 0, 0) := by decide +kernel
theorem k177_70 : icode MCl 177 70 = some (.getfield 37, 73, 815, 790, 1) := by decide +kernel
theorem k177_73 : icode MCl 177 73 = some (.iload 7, 75, 0, 0, 0) := by decide +kernel
theorem k177_75 : icode MCl 177 75 = some (.iaload, 76, 0, 0, 0) := by decide +kernel
theorem k177_76 : icode MCl 177 76 = some (.istore 7, 78, 0, 0, 0) := by decide +kernel
theorem k177_78 : icode MCl 177 78 = some (.goto (-31), 81, 47, 0, 0) := by decide +kernel
theorem k177_81 : icode MCl 177 81 = some (.iconst 0, 82, 0, 0, 0) := by decide +kernel
theorem k177_82 : icode MCl 177 82 = some (.istore 7, 84, 0, 0, 0) := by decide +kernel
theorem k177_84 : icode MCl 177 84 = some (.iconst 0, 85, 0, 0, 0) := by decide +kernel
theorem k177_85 : icode MCl 177 85 = some (.istore 8, 87, 0, 0, 0) := by decide +kernel
theorem k177_87 : icode MCl 177 87 = some (.iload 8, 89, 0, 0, 0) := by decide +kernel
theorem k177_89 : icode MCl 177 89 = some (.iconst 1, 90, 0, 0, 1) := by decide +kernel
theorem k177_90 : icode MCl 177 90 = some (.iload 5, 92, 0, 0, 0) := by decide +kernel
theorem k177_92 : icode MCl 177 92 = some (.ishl, 93, 0, 0, 0) := by decide +kernel
theorem k177_93 : icode MCl 177 93 = some (.if_icmp .ge 79, 96, 172, 0, 0) := by decide +kernel
theorem k177_96 : icode MCl 177 96 = some (.iconst 1, 97, 0, 0, 1) := by decide +kernel
theorem k177_97 : icode MCl 177 97 = some (.istore 9, 99, 0, 0, 0) := by decide +kernel
theorem k177_99 : icode MCl 177 99 = some (.iconst 0, 100, 0, 0, 0) := by decide +kernel
theorem k177_100 : icode MCl 177 100 = some (.istore 10, 102, 0, 0, 0) := by decide +kernel
theorem k177_102 : icode MCl 177 102 = some (.iload 10, 104, 0, 0, 0) := by decide +kernel
theorem k177_104 : icode MCl 177 104 = some (.iload 5, 106, 0, 0, 0) := by decide +kernel
theorem k177_106 : icode MCl 177 106 = some (.if_icmp .ge 32, 109, 138, 0, 0) := by decide +kernel
theorem k177_109 : icode MCl 177 109 = some (.iload 9, 111, 0, 0, 0) := by decide +kernel
theorem k177_111 : icode MCl 177 111 = some (.iload 8, 113, 0, 0, 0) := by decide +kernel
theorem k177_113 : icode MCl 177 113 = some (.iload 10, 115, 0, 0, 0) := by decide +kernel
theorem k177_115 : icode MCl 177 115 = some (.invokestatic 156, 118, 108, 954, 0) := by decide +kernel
theorem k177_118 : icode MCl 177 118 = some (.ifCond .eq 7, 121, 125, 0, 0) := by decide +kernel
theorem k177_121 : icode MCl 177 121 = some (.iload_n 3, 122, 0, 0, 0) := by decide +kernel
theorem k177_122 : icode MCl 177 122 = some (.goto 7, 125, 129, 0, 0) := by decide +kernel
theorem k177_125 : icode MCl 177 125 = some (.bipush 10, 127, 0, 0, 10) := by decide +kernel
theorem k177_127 : icode MCl 177 127 = some (.iload_n 3, 128, 0, 0, 0) := by decide +kernel
theorem k177_128 : icode MCl 177 128 = some (.isub, 129, 0, 0, 0) := by decide +kernel
theorem k177_129 : icode MCl 177 129 = some (.imul, 130, 0, 0, 0) := by decide +kernel
theorem k177_130 : icode MCl 177 130 = some (.istore 9, 132, 0, 0, 0) := by decide +kernel
theorem k177_132 : icode MCl 177 132 = some (.iinc 10 1, 135, 0, 0, 1) := by decide +kernel
theorem k177_135 : icode MCl 177 135 = some (.goto (-33), 138, 102, 0, 0) := by decide +kernel
theorem k177_138 : icode MCl 177 138 = some (.iload 7, 140, 0, 0, 0) := by decide +kernel
theorem k177_140 : icode MCl 177 140 = some (.aload_n 0, 141, 0, 0, 0) := by decide +kernel
theorem k177_141 : icode MCl 177 141 = some (.iload_n 1, 142, 0, 0, 0) := by decide +kernel
theorem k177_142 : icode MCl 177 142 = some (.iload_n 2, 143, 0, 0, 0) := by decide +kernel
theorem k177_143 : icode MCl 177 143 = some (.iload 8, 145, 0, 0, 0) := by decide +kernel
theorem k177_145 : icode MCl 177 145 = some (.invokevirtual 207, 148, 175, 1054, 0) := by decide +kernel
theorem k177_148 : icode MCl 177 148 = some (.aload_n 0, 149, 0, 0, 0) := by decide +kernel
theorem k177_149 : icode MCl 177 149 = some (.iload_n 1, 150, 0, 0, 0) := by decide +kernel
theorem k177_150 : icode MCl 177 150 = some (.iload_n 2, 151, 0, 0, 0) := by decide +kernel
theorem k177_151 : icode MCl 177 151 = some (.invokevirtual 182, 154, 131, 980, 0) := by decide +kernel
theorem k177_154 : icode MCl 177 154 = some (.if_icmp .ne 8, 157, 162, 0, 0) := by decide +kernel
theorem k177_157 : icode MCl 177 157 = some (.iload 9, 159, 0, 0, 0) := by decide +kernel
theorem k177_159 : icode MCl 177 159 = some (.goto 4, 162, 163, 0, 0) := by decide +kernel
theorem k177_162 : icode MCl 177 162 = some (.iconst 0, 163, 0, 0, 0) := by decide +kernel
theorem k177_163 : icode MCl 177 163 = some (.iadd, 164, 0, 0, 0) := by decide +kernel
theorem k177_164 : icode MCl 177 164 = some (.istore 7, 166, 0, 0, 0) := by decide +kernel
theorem k177_166 : icode MCl 177 166 = some (.iinc 8 1, 169, 0, 0, 1) := by decide +kernel
theorem k177_169 : icode MCl 177 169 = some (.goto (-82), 172, 87, 0, 0) := by decide +kernel
theorem k177_172 : icode MCl 177 172 = some (.iload 7, 174, 0, 0, 0) := by decide +kernel
theorem k177_174 : icode MCl 177 174 = some (.iload 6, 176, 0, 0, 0) := by decide +kernel
theorem k177_176 : icode MCl 177 176 = some (.invokestatic 211, 179, 176, 1061, 0) := by decide +kernel
theorem k177_179 : icode MCl 177 179 = some (.istore 8, 181, 0, 0, 0) := by decide +kernel
theorem k177_181 : icode MCl 177 181 = some (.iload 4, 183, 0, 0, 0) := by decide +kernel
theorem k177_183 : icode MCl 177 183 = some (.ifCond .ne 11, 186, 194, 0, 0) := by decide +kernel
theorem k177_186 : icode MCl 177 186 = some (.iload 7, 188, 0, 0, 0) := by decide +kernel
theorem k177_188 : icode MCl 177 188 = some (.iload 8, 190, 0, 0, 0) := by decide +kernel
theorem k177_190 : icode MCl 177 190 = some (.idiv, 191, 0, 0, 0) := by decide +kernel
theorem k177_191 : icode MCl 177 191 = some (.goto 8, 194, 199, 0, 0) := by decide +kernel
theorem k177_194 : icode MCl 177 194 = some (.iload 6, 196, 0, 0, 0) := by decide +kernel
theorem k177_196 : icode MCl 177 196 = some (.iload 8, 198, 0, 0, 0) := by decide +kernel
theorem k177_198 : icode MCl 177 198 = some (.idiv, 199, 0, 0, 0) := by decide +kernel
theorem k177_199 : icode MCl 177 199 = some (.ireturn, 200, 0, 0, 0) := by decide +kernel
theorem k178_0 : icode MCl 178 0 = some (.ldc2_w 252, 3, 0, 722, 7919) := by decide +kernel
theorem k178_3 : icode MCl 178 3 = some (.iload_n 0, 4, 0, 0, 0) := by decide +kernel
theorem k178_4 : icode MCl 178 4 = some (.i2l, 5, 0, 0, 0) := by decide +kernel
theorem k178_5 : icode MCl 178 5 = some (.lmul, 6, 0, 0, 0) := by decide +kernel
theorem k178_6 : icode MCl 178 6 = some (.ldc2_w 254, 9, 0, 723, 6151) := by decide +kernel
theorem k178_9 : icode MCl 178 9 = some (.iload_n 1, 10, 0, 0, 0) := by decide +kernel
theorem k178_10 : icode MCl 178 10 = some (.i2l, 11, 0, 0, 0) := by decide +kernel
theorem k178_11 : icode MCl 178 11 = some (.lmul, 12, 0, 0, 0) := by decide +kernel
theorem k178_12 : icode MCl 178 12 = some (.ladd, 13, 0, 0, 0) := by decide +kernel
theorem k178_13 : icode MCl 178 13 = some (.lconst 1, 14, 0, 0, 1) := by decide +kernel
theorem k178_14 : icode MCl 178 14 = some (.ladd, 15, 0, 0, 0) := by decide +kernel
theorem k178_15 : icode MCl 178 15 = some (.lstore_n 2, 16, 0, 0, 0) := by decide +kernel
theorem k178_16 : icode MCl 178 16 = some (.lload_n 2, 17, 0, 0, 0) := by decide +kernel
theorem k178_17 : icode MCl 178 17 = some (.lload_n 2, 18, 0, 0, 0) := by decide +kernel
theorem k178_18 : icode MCl 178 18 = some (.lmul, 19, 0, 0, 0) := by decide +kernel
theorem k178_19 : icode MCl 178 19 = some (.ldc2_w 256, 22, 0, 724, 65521) := by decide +kernel
theorem k178_22 : icode MCl 178 22 = some (.lrem, 23, 0, 0, 0) := by decide +kernel
theorem k178_23 : icode MCl 178 23 = some (.l2i, 24, 0, 0, 0) := by decide +kernel
theorem k178_24 : icode MCl 178 24 = some (.ireturn, 25, 0, 0, 0) := by decide +kernel
theorem k179_0 : icode MCl 179 0 = some (.aload_n 0, 1, 0, 0, 0) := by decide +kernel
theorem k179_1 : icode MCl 179 1 = some (.getfield 28, 4, 702, 411, 1) := by decide +kernel
theorem k179_4 : icode MCl 179 4 = some (.invokevirtual 92, 7, 72, 453, 0) := by decide +kernel
theorem k179_7 : icode MCl 179 7 = some (.istore_n 2, 8, 0, 0, 0) := by decide +kernel
theorem k179_8 : icode MCl 179 8 = some (.iload_n 2, 9, 0, 0, 0) := by decide +kernel
theorem k179_9 : icode MCl 179 9 = some (.iconst 1, 10, 0, 0, 1) := by decide +kernel
theorem k179_10 : icode MCl 179 10 = some (.if_icmp .ge 4, 13, 14, 0, 0) := by decide +kernel
theorem k179_13 : icode MCl 179 13 = some (.return_, 14, 0, 0, 0) := by decide +kernel
theorem k179_14 : icode MCl 179 14 = some (.iload_n 1, 15, 0, 0, 0) := by decide +kernel
theorem k179_15 : icode MCl 179 15 = some (.bipush 8, 17, 0, 0, 8) := by decide +kernel
theorem k179_17 : icode MCl 179 17 = some (.idiv, 18, 0, 0, 0) := by decide +kernel
theorem k179_18 : icode MCl 179 18 = some (.iload_n 2, 19, 0, 0, 0) := by decide +kernel
theorem k179_19 : icode MCl 179 19 = some (.irem, 20, 0, 0, 0) := by decide +kernel
theorem k179_20 : icode MCl 179 20 = some (.istore_n 3, 21, 0, 0, 0) := by decide +kernel
theorem k179_21 : icode MCl 179 21 = some (.iload_n 1, 22, 0, 0, 0) := by decide +kernel
theorem k179_22 : icode MCl 179 22 = some (.bipush 8, 24, 0, 0, 8) := by decide +kernel
theorem k179_24 : icode MCl 179 24 = some (.irem, 25, 0, 0, 0) := by decide +kernel
theorem k179_25 : icode MCl 179 25 = some (.ifCond .ne 11, 28, 36, 0, 0) := by decide +kernel
theorem k179_28 : icode MCl 179 28 = some (.aload_n 0, 29, 0, 0, 0) := by decide +kernel
theorem k179_29 : icode MCl 179 29 = some (.getfield 39, 32, 704, 413, 1) := by decide +kernel
theorem k179_32 : icode MCl 179 32 = some (.iload_n 3, 33, 0, 0, 0) := by decide +kernel
theorem k179_33 : icode MCl 179 33 = some (.invokevirtual 160, 36, 36, 553, 0) := by decide +kernel
theorem k179_36 : icode MCl 179 36 = some (.iload_n 1, 37, 0, 0, 0) := by decide +kernel
theorem k179_37 : icode MCl 179 37 = some (.bipush 8, 39, 0, 0, 8) := by decide +kernel
theorem k179_39 : icode MCl 179 39 = some (.irem, 40, 0, 0, 0) := by decide +kernel
theorem k179_40 : icode MCl 179 40 = some (.iconst 1, 41, 0, 0, 1) := by decide +kernel
theorem k179_41 : icode MCl 179 41 = some (.if_icmp .ne 48, 44, 89, 0, 0) := by decide +kernel
theorem k179_44 : icode MCl 179 44 = some (.iconst 1, 45, 0, 0, 1) := by decide +kernel
theorem k179_45 : icode MCl 179 45 = some (.iload_n 1, 46, 0, 0, 0) := by decide +kernel
theorem k179_46 : icode MCl 179 46 = some (.sipush 128, 49, 0, 0, 128) := by decide +kernel
theorem k179_49 : icode MCl 179 49 = some (.idiv, 50, 0, 0, 0) := by decide +kernel
theorem k179_50 : icode MCl 179 50 = some (.iconst 3, 51, 0, 0, 3) := by decide +kernel
theorem k179_51 : icode MCl 179 51 = some (.irem, 52, 0, 0, 0) := by decide +kernel
theorem k179_52 : icode MCl 179 52 = some (.iadd, 53, 0, 0, 0) := by decide +kernel
theorem k179_53 : icode MCl 179 53 = some (.istore 4, 55, 0, 0, 0) := by decide +kernel
theorem k179_55 : icode MCl 179 55 = some (.iconst 1, 56, 0, 0, 1) := by decide +kernel
theorem k179_56 : icode MCl 179 56 = some (.iload_n 1, 57, 0, 0, 0) := by decide +kernel
theorem k179_57 : icode MCl 179 57 = some (.sipush 512, 60, 0, 0, 512) := by decide +kernel
theorem k179_60 : icode MCl 179 60 = some (.idiv, 61, 0, 0, 0) := by decide +kernel
theorem k179_61 : icode MCl 179 61 = some (.iconst 3, 62, 0, 0, 3) := by decide +kernel
theorem k179_62 : icode MCl 179 62 = some (.irem, 63, 0, 0, 0) := by decide +kernel
theorem k179_63 : icode MCl 179 63 = some (.iadd, 64, 0, 0, 0) := by decide +kernel
theorem k179_64 : icode MCl 179 64 = some (.istore 5, 66, 0, 0, 0) := by decide +kernel
theorem k179_66 : icode MCl 179 66 = some (.aload_n 0, 67, 0, 0, 0) := by decide +kernel
theorem k179_67 : icode MCl 179 67 = some (.getfield 39, 70, 704, 413, 1) := by decide +kernel
theorem k179_70 : icode MCl 179 70 = some (.iload_n 3, 71, 0, 0, 0) := by decide +kernel
theorem k179_71 : icode MCl 179 71 = some (.aload_n 0, 72, 0, 0, 0) := by decide +kernel
theorem k179_72 : icode MCl 179 72 = some (.getfield 39, 75, 704, 413, 1) := by decide +kernel
theorem k179_75 : icode MCl 179 75 = some (.invokevirtual 167, 78, 116, 563, 0) := by decide +kernel
theorem k179_78 : icode MCl 179 78 = some (.iload 4, 80, 0, 0, 0) := by decide +kernel
theorem k179_80 : icode MCl 179 80 = some (.iconst 4, 81, 0, 0, 4) := by decide +kernel
theorem k179_81 : icode MCl 179 81 = some (.imul, 82, 0, 0, 0) := by decide +kernel
theorem k179_82 : icode MCl 179 82 = some (.iload 5, 84, 0, 0, 0) := by decide +kernel
theorem k179_84 : icode MCl 179 84 = some (.iadd, 85, 0, 0, 0) := by decide +kernel
theorem k179_85 : icode MCl 179 85 = some (.invokevirtual 170, 88, 32, 567, 0) := by decide +kernel
theorem k179_88 : icode MCl 179 88 = some (.pop, 89, 0, 0, 0) := by decide +kernel
theorem k179_89 : icode MCl 179 89 = some (.return_, 90, 0, 0, 0) := by decide +kernel
theorem k180_0 : icode MCl 180 0 = some (.iconst 0, 1, 0, 0, 0) := by decide +kernel
theorem k180_1 : icode MCl 180 1 = some (.istore_n 1, 2, 0, 0, 0) := by decide +kernel
theorem k180_2 : icode MCl 180 2 = some (.iconst 0, 3, 0, 0, 0) := by decide +kernel
theorem k180_3 : icode MCl 180 3 = some (.istore_n 2, 4, 0, 0, 0) := by decide +kernel
theorem k180_4 : icode MCl 180 4 = some (.iload_n 2, 5, 0, 0, 0) := by decide +kernel
theorem k180_5 : icode MCl 180 5 = some (.aload_n 0, 6, 0, 0, 0) := by decide +kernel
theorem k180_6 : icode MCl 180 6 = some (.getfield 22, 9, 202, 146, 0) := by decide +kernel
theorem k180_9 : icode MCl 180 9 = some (.if_icmp .ge 36, 12, 45, 0, 0) := by decide +kernel
theorem k180_12 : icode MCl 180 12 = some (.iload_n 1, 13, 0, 0, 0) := by decide +kernel
theorem k180_13 : icode MCl 180 13 = some (.aload_n 0, 14, 0, 0, 0) := by decide +kernel
theorem k180_14 : icode MCl 180 14 = some (.iload_n 2, 15, 0, 0, 0) := by decide +kernel
theorem k180_15 : icode MCl 180 15 = some (.invokevirtual 32, 18, 30, 341, 0) := by decide +kernel
theorem k180_18 : icode MCl 180 18 = some (.getfield 62, 21, 101, 120, 0) := by decide +kernel
theorem k180_21 : icode MCl 180 21 = some (.iconst 2, 22, 0, 0, 2) := by decide +kernel
theorem k180_22 : icode MCl 180 22 = some (.if_icmp .ne 14, 25, 36, 0, 0) := by decide +kernel
theorem k180_25 : icode MCl 180 25 = some (.aload_n 0, 26, 0, 0, 0) := by decide +kernel
theorem k180_26 : icode MCl 180 26 = some (.iload_n 2, 27, 0, 0, 0) := by decide +kernel
theorem k180_27 : icode MCl 180 27 = some (.invokevirtual 32, 30, 30, 341, 0) := by decide +kernel
theorem k180_30 : icode MCl 180 30 = some (.getfield 72, 33, 103, 126, 0) := by decide +kernel
theorem k180_33 : icode MCl 180 33 = some (.goto 4, 36, 37, 0, 0) := by decide +kernel
theorem k180_36 : icode MCl 180 36 = some (.iconst 0, 37, 0, 0, 0) := by decide +kernel
theorem k180_37 : icode MCl 180 37 = some (.iadd, 38, 0, 0, 0) := by decide +kernel
theorem k180_38 : icode MCl 180 38 = some (.istore_n 1, 39, 0, 0, 0) := by decide +kernel
theorem k180_39 : icode MCl 180 39 = some (.iinc 2 1, 42, 0, 0, 1) := by decide +kernel
theorem k180_42 : icode MCl 180 42 = some (.goto (-38), 45, 4, 0, 0) := by decide +kernel
theorem k180_45 : icode MCl 180 45 = some (.iload_n 1, 46, 0, 0, 0) := by decide +kernel
theorem k180_46 : icode MCl 180 46 = some (.ireturn, 47, 0, 0, 0) := by decide +kernel
theorem k181_0 : icode MCl 181 0 = some (.iload_n 1, 1, 0, 0, 0) := by decide +kernel
theorem k181_1 : icode MCl 181 1 = some (.iconst 0, 2, 0, 0, 0) := by decide +kernel
theorem k181_2 : icode MCl 181 2 = some (.sipush 9999, 5, 0, 0, 9999) := by decide +kernel
theorem k181_5 : icode MCl 181 5 = some (.invokestatic 86, 8, 22, 439, 0) := by decide +kernel
theorem k181_8 : icode MCl 181 8 = some (.ifCond .eq 22, 11, 30, 0, 0) := by decide +kernel
theorem k181_11 : icode MCl 181 11 = some (.iload_n 2, 12, 0, 0, 0) := by decide +kernel
theorem k181_12 : icode MCl 181 12 = some (.iconst 1, 13, 0, 0, 1) := by decide +kernel
theorem k181_13 : icode MCl 181 13 = some (.bipush 60, 15, 0, 0, 60) := by decide +kernel
theorem k181_15 : icode MCl 181 15 = some (.invokestatic 86, 18, 22, 439, 0) := by decide +kernel
theorem k181_18 : icode MCl 181 18 = some (.ifCond .eq 12, 21, 30, 0, 0) := by decide +kernel
theorem k181_21 : icode MCl 181 21 = some (.iload_n 3, 22, 0, 0, 0) := by decide +kernel
theorem k181_22 : icode MCl 181 22 = some (.iconst 0, 23, 0, 0, 0) := by decide +kernel
theorem k181_23 : icode MCl 181 23 = some (.iconst 1, 24, 0, 0, 1) := by decide +kernel
theorem k181_24 : icode MCl 181 24 = some (.invokestatic 86, 27, 22, 439, 0) := by decide +kernel
theorem k181_27 : icode MCl 181 27 = some (.ifCond .ne 5, 30, 32, 0, 0) := by decide +kernel
theorem k181_30 : icode MCl 181 30 = some (.iconst (-1), 31, 0, 0, (-1)) := by decide +kernel
theorem k181_31 : icode MCl 181 31 = some (.ireturn, 32, 0, 0, 0) := by decide +kernel
theorem k181_32 : icode MCl 181 32 = some (.aload_n 0, 33, 0, 0, 0) := by decide +kernel
theorem k181_33 : icode MCl 181 33 = some (.getfield 39, 36, 704, 413, 1) := by decide +kernel
theorem k181_36 : icode MCl 181 36 = some (.aload_n 0, 37, 0, 0, 0) := by decide +kernel
theorem k181_37 : icode MCl 181 37 = some (.getfield 35, 40, 703, 412, 1) := by decide +kernel
theorem k181_40 : icode MCl 181 40 = some (.invokevirtual 195, 43, 46, 389, 0) := by decide +kernel
theorem k181_43 : icode MCl 181 43 = some (.iconst 0, 44, 0, 0, 0) := by decide +kernel
theorem k181_44 : icode MCl 181 44 = some (.istore 4, 46, 0, 0, 0) := by decide +kernel
theorem k181_46 : icode MCl 181 46 = some (.iload 4, 48, 0, 0, 0) := by decide +kernel
theorem k181_48 : icode MCl 181 48 = some (.iload_n 2, 49, 0, 0, 0) := by decide +kernel
theorem k181_49 : icode MCl 181 49 = some (.if_icmp .ge 30, 52, 79, 0, 0) := by decide +kernel
theorem k181_52 : icode MCl 181 52 = some (.aload_n 0, 53, 0, 0, 0) := by decide +kernel
theorem k181_53 : icode MCl 181 53 = some (.iload_n 1, 54, 0, 0, 0) := by decide +kernel
theorem k181_54 : icode MCl 181 54 = some (.iload 4, 56, 0, 0, 0) := by decide +kernel
theorem k181_56 : icode MCl 181 56 = some (.invokestatic 228, 59, 178, 719, 0) := by decide +kernel
theorem k181_59 : icode MCl 181 59 = some (.invokevirtual 231, 62, 179, 725, 0) := by decide +kernel
theorem k181_62 : icode MCl 181 62 = some (.aload_n 0, 63, 0, 0, 0) := by decide +kernel
theorem k181_63 : icode MCl 181 63 = some (.getfield 39, 66, 704, 413, 1) := by decide +kernel
theorem k181_66 : icode MCl 181 66 = some (.aload_n 0, 67, 0, 0, 0) := by decide +kernel
theorem k181_67 : icode MCl 181 67 = some (.getfield 28, 70, 702, 411, 1) := by decide +kernel
theorem k181_70 : icode MCl 181 70 = some (.invokevirtual 153, 73, 104, 524, 0) := by decide +kernel
theorem k181_73 : icode MCl 181 73 = some (.iinc 4 1, 76, 0, 0, 1) := by decide +kernel
theorem k181_76 : icode MCl 181 76 = some (.goto (-30), 79, 46, 0, 0) := by decide +kernel
theorem k181_79 : icode MCl 181 79 = some (.iload_n 3, 80, 0, 0, 0) := by decide +kernel
theorem k181_80 : icode MCl 181 80 = some (.ifCond .ne 14, 83, 94, 0, 0) := by decide +kernel
theorem k181_83 : icode MCl 181 83 = some (.aload_n 0, 84, 0, 0, 0) := by decide +kernel
theorem k181_84 : icode MCl 181 84 = some (.getfield 39, 87, 704, 413, 1) := by decide +kernel
theorem k181_87 : icode MCl 181 87 = some (.iconst 2, 88, 0, 0, 2) := by decide +kernel
theorem k181_88 : icode MCl 181 88 = some (.invokevirtual 157, 91, 105, 545, 0) := by decide +kernel
theorem k181_91 : icode MCl 181 91 = some (.goto 14, 94, 105, 0, 0) := by decide +kernel
theorem k181_94 : icode MCl 181 94 = some (.aload_n 0, 95, 0, 0, 0) := by decide +kernel
theorem k181_95 : icode MCl 181 95 = some (.getfield 39, 98, 704, 413, 1) := by decide +kernel
theorem k181_98 : icode MCl 181 98 = some (.invokevirtual 234, 101, 180, 729, 0) := by decide +kernel
theorem k181_101 : icode MCl 181 101 = some (.sipush 9973, 104, 0, 0, 9973) := by decide +kernel
theorem k181_104 : icode MCl 181 104 = some (.irem, 105, 0, 0, 0) := by decide +kernel
theorem k181_105 : icode MCl 181 105 = some (.ireturn, 106, 0, 0, 0) := by decide +kernel
theorem k182_0 : icode MCl 182 0 = some (.iload_n 1, 1, 0, 0, 0) := by decide +kernel
theorem k182_1 : icode MCl 182 1 = some (.iconst 0, 2, 0, 0, 0) := by decide +kernel
theorem k182_2 : icode MCl 182 2 = some (.sipush 9999, 5, 0, 0, 9999) := by decide +kernel
theorem k182_5 : icode MCl 182 5 = some (.invokestatic 73, 8, 59, 855, 0) := by decide +kernel
theorem k182_8 : icode MCl 182 8 = some (.ifCond .eq 22, 11, 30, 0, 0) := by decide +kernel
theorem k182_11 : icode MCl 182 11 = some (.iload_n 2, 12, 0, 0, 0) := by decide +kernel
theorem k182_12 : icode MCl 182 12 = some (.iconst 1, 13, 0, 0, 1) := by decide +kernel
theorem k182_13 : icode MCl 182 13 = some (.bipush 60, 15, 0, 0, 60) := by decide +kernel
theorem k182_15 : icode MCl 182 15 = some (.invokestatic 73, 18, 59, 855, 0) := by decide +kernel
theorem k182_18 : icode MCl 182 18 = some (.ifCond .eq 12, 21, 30, 0, 0) := by decide +kernel
theorem k182_21 : icode MCl 182 21 = some (.iload_n 3, 22, 0, 0, 0) := by decide +kernel
theorem k182_22 : icode MCl 182 22 = some (.iconst 0, 23, 0, 0, 0) := by decide +kernel
theorem k182_23 : icode MCl 182 23 = some (.iconst 1, 24, 0, 0, 1) := by decide +kernel
theorem k182_24 : icode MCl 182 24 = some (.invokestatic 73, 27, 59, 855, 0) := by decide +kernel
theorem k182_27 : icode MCl 182 27 = some (.ifCond .ne 5, 30, 32, 0, 0) := by decide +kernel
theorem k182_30 : icode MCl 182 30 = some (.iconst (-1), 31, 0, 0, (-1)) := by decide +kernel
theorem k182_31 : icode MCl 182 31 = some (.ireturn, 32, 0, 0, 0) := by decide +kernel
theorem k182_32 : icode MCl 182 32 = some (.aload_n 0, 33, 0, 0, 0) := by decide +kernel
theorem k182_33 : icode MCl 182 33 = some (.invokevirtual 185, 36, 137, 992, 0) := by decide +kernel
theorem k182_36 : icode MCl 182 36 = some (.iconst 0, 37, 0, 0, 0) := by decide +kernel
theorem k182_37 : icode MCl 182 37 = some (.istore 4, 39, 0, 0, 0) := by decide +kernel
theorem k182_39 : icode MCl 182 39 = some (.iload 4, 41, 0, 0, 0) := by decide +kernel
theorem k182_41 : icode MCl 182 41 = some (.iload_n 2, 42, 0, 0, 0) := by decide +kernel
theorem k182_42 : icode MCl 182 42 = some (.if_icmp .ge 142, 45, 184, 0, 0) := by decide +kernel
theorem k182_45 : icode MCl 182 45 = some (.ldc2_w 214, 48, 0, 1068, 7919) := by decide +kernel
theorem k182_48 : icode MCl 182 48 = some (.iload_n 1, 49, 0, 0, 0) := by decide +kernel
theorem k182_49 : icode MCl 182 49 = some (.i2l, 50, 0, 0, 0) := by decide +kernel
theorem k182_50 : icode MCl 182 50 = some (.lmul, 51, 0, 0, 0) := by decide +kernel
theorem k182_51 : icode MCl 182 51 = some (.ldc2_w 216, 54, 0, 1069, 6151) := by decide +kernel
theorem k182_54 : icode MCl 182 54 = some (.iload 4, 56, 0, 0, 0) := by decide +kernel
theorem k182_56 : icode MCl 182 56 = some (.i2l, 57, 0, 0, 0) := by decide +kernel
theorem k182_57 : icode MCl 182 57 = some (.lmul, 58, 0, 0, 0) := by decide +kernel
theorem k182_58 : icode MCl 182 58 = some (.ladd, 59, 0, 0, 0) := by decide +kernel
theorem k182_59 : icode MCl 182 59 = some (.lconst 1, 60, 0, 0, 1) := by decide +kernel
theorem k182_60 : icode MCl 182 60 = some (.ladd, 61, 0, 0, 0) := by decide +kernel
theorem k182_61 : icode MCl 182 61 = some (.lstore 5, 63, 0, 0, 0) := by decide +kernel
theorem k182_63 : icode MCl 182 63 = some (.lload 5, 65, 0, 0, 0) := by decide +kernel
theorem k182_65 : icode MCl 182 65 = some (.lload 5, 67, 0, 0, 0) := by decide +kernel
theorem k182_67 : icode MCl 182 67 = some (.lmul, 68, 0, 0, 0) := by decide +kernel
theorem k182_68 : icode MCl 182 68 = some (.ldc2_w 218, 71, 0, 1070, 65521) := by decide +kernel
theorem k182_71 : icode MCl 182 71 = some (.lrem, 72, 0, 0, 0) := by decide +kernel
theorem k182_72 : icode MCl 182 72 = some (.l2i, 73, 0, 0, 0) := by decide +kernel
theorem k182_73 : icode MCl 182 73 = some (.istore 7, 75, 0, 0, 0) := by decide +kernel
theorem k182_75 : icode MCl 182 75 = some (.iload 7, 77, 0, 0, 0) := by decide +kernel
theorem k182_77 : icode MCl 182 77 = some (.bipush 8, 79, 0, 0, 8) := by decide +kernel
theorem k182_79 : icode MCl 182 79 = some (.idiv, 80, 0, 0, 0) := by decide +kernel
theorem k182_80 : icode MCl 182 80 = some (.aload_n 0, 81, 0, 0, 0) := by decide +kernel
theorem k182_81 : icode MCl 182 81 = some (.getfield 119, 84, 812, 787, 0) := by decide +kernel
theorem k182_84 : icode MCl 182 84 = some (.irem, 85, 0, 0, 0) := by decide +kernel
theorem k182_85 : icode MCl 182 85 = some (.istore 8, 87, 0, 0, 0) := by decide +kernel
theorem k182_87 : icode MCl 182 87 = some (.aload_n 0, 88, 0, 0, 0) := by decide +kernel
theorem k182_88 : icode MCl 182 88 = some (.getfield 43, 91, 817, 792, 1) := by decide +kernel
theorem k182_91 : icode MCl 182 91 = some (.iconst 1, 92, 0, 0, 1) := by decide +kernel
theorem k182_92 : icode MCl 182 92 = some (.dup2, 93, 0, 0, 0) := by decide +kernel
theorem k182_93 : icode MCl 182 93 = some (.iaload, 94, 0, 0, 0) := by decide +kernel
theorem k182_94 : icode MCl 182 94 = some (.iload 7, 96, 0, 0, 0) := by decide +kernel
theorem k182_96 : icode MCl 182 96 = some (.bipush 8, 98, 0, 0, 8) := by decide +kernel
theorem k182_98 : icode MCl 182 98 = some (.irem, 99, 0, 0, 0) := by decide +kernel
theorem k182_99 : icode MCl 182 99 = some (.ifCond .ne 10, 102, 109, 0, 0) := by decide +kernel
theorem k182_102 : icode MCl 182 102 = some (.iconst 1, 103, 0, 0, 1) := by decide +kernel
theorem k182_103 : icode MCl 182 103 = some (.iload 8, 105, 0, 0, 0) := by decide +kernel
theorem k182_105 : icode MCl 182 105 = some (.ishl, 106, 0, 0, 0) := by decide +kernel
theorem k182_106 : icode MCl 182 106 = some (.goto 4, 109, 110, 0, 0) := by decide +kernel
theorem k182_109 : icode MCl 182 109 = some (.iconst 0, 110, 0, 0, 0) := by decide +kernel
theorem k182_110 : icode MCl 182 110 = some (.ixor, 111, 0, 0, 0) := by decide +kernel
theorem k182_111 : icode MCl 182 111 = some (.iastore, 112, 0, 0, 0) := by decide +kernel
theorem k182_112 : icode MCl 182 112 = some (.iload 7, 114, 0, 0, 0) := by decide +kernel
theorem k182_114 : icode MCl 182 114 = some (.bipush 8, 116, 0, 0, 8) := by decide +kernel
theorem k182_116 : icode MCl 182 116 = some (.irem, 117, 0, 0, 0) := by decide +kernel
theorem k182_117 : icode MCl 182 117 = some (.iconst 1, 118, 0, 0, 1) := by decide +kernel
theorem k182_118 : icode MCl 182 118 = some (.if_icmp .ne 52, 121, 170, 0, 0) := by decide +kernel
theorem k182_121 : icode MCl 182 121 = some (.aload_n 0, 122, 0, 0, 0) := by decide +kernel
theorem k182_122 : icode MCl 182 122 = some (.getfield 43, 125, 817, 792, 1) := by decide +kernel
theorem k182_125 : icode MCl 182 125 = some (.iconst 2, 126, 0, 0, 2) := by decide +kernel
theorem k182_126 : icode MCl 182 126 = some (.iaload, 127, 0, 0, 0) := by decide +kernel
theorem k182_127 : icode MCl 182 127 = some (.bipush 6, 129, 0, 0, 6) := by decide +kernel
theorem k182_129 : icode MCl 182 129 = some (.if_icmp .ge 41, 132, 170, 0, 0) := by decide +kernel
theorem k182_132 : icode MCl 182 132 = some (.aload_n 0, 133, 0, 0, 0) := by decide +kernel
theorem k182_133 : icode MCl 182 133 = some (.getfield 43, 136, 817, 792, 1) := by decide +kernel
theorem k182_136 : icode MCl 182 136 = some (.iload 8, 138, 0, 0, 0) := by decide +kernel
theorem k182_138 : icode MCl 182 138 = some (.aload_n 0, 139, 0, 0, 0) := by decide +kernel
theorem k182_139 : icode MCl 182 139 = some (.getfield 43, 142, 817, 792, 1) := by decide +kernel
theorem k182_142 : icode MCl 182 142 = some (.iconst 0, 143, 0, 0, 0) := by decide +kernel
theorem k182_143 : icode MCl 182 143 = some (.iaload, 144, 0, 0, 0) := by decide +kernel
theorem k182_144 : icode MCl 182 144 = some (.iconst 4, 145, 0, 0, 4) := by decide +kernel
theorem k182_145 : icode MCl 182 145 = some (.iconst 1, 146, 0, 0, 1) := by decide +kernel
theorem k182_146 : icode MCl 182 146 = some (.iload 7, 148, 0, 0, 0) := by decide +kernel
theorem k182_148 : icode MCl 182 148 = some (.sipush 128, 151, 0, 0, 128) := by decide +kernel
theorem k182_151 : icode MCl 182 151 = some (.idiv, 152, 0, 0, 0) := by decide +kernel
theorem k182_152 : icode MCl 182 152 = some (.iconst 3, 153, 0, 0, 3) := by decide +kernel
theorem k182_153 : icode MCl 182 153 = some (.irem, 154, 0, 0, 0) := by decide +kernel
theorem k182_154 : icode MCl 182 154 = some (.iadd, 155, 0, 0, 0) := by decide +kernel
theorem k182_155 : icode MCl 182 155 = some (.imul, 156, 0, 0, 0) := by decide +kernel
theorem k182_156 : icode MCl 182 156 = some (.iconst 1, 157, 0, 0, 1) := by decide +kernel
theorem k182_157 : icode MCl 182 157 = some (.iadd, 158, 0, 0, 0) := by decide +kernel
theorem k182_158 : icode MCl 182 158 = some (.iload 7, 160, 0, 0, 0) := by decide +kernel
theorem k182_160 : icode MCl 182 160 = some (.sipush 512, 163, 0, 0, 512) := by decide +kernel
theorem k182_163 : icode MCl 182 163 = some (.idiv, 164, 0, 0, 0) := by decide +kernel
theorem k182_164 : icode MCl 182 164 = some (.iconst 3, 165, 0, 0, 3) := by decide +kernel
theorem k182_165 : icode MCl 182 165 = some (.irem, 166, 0, 0, 0) := by decide +kernel
theorem k182_166 : icode MCl 182 166 = some (.iadd, 167, 0, 0, 0) := by decide +kernel
theorem k182_167 : icode MCl 182 167 = some (.invokestatic 122, 170, 55, 772, 0) := by decide +kernel
theorem k182_170 : icode MCl 182 170 = some (.aload_n 0, 171, 0, 0, 0) := by decide +kernel
theorem k182_171 : icode MCl 182 171 = some (.aload_n 0, 172, 0, 0, 0) := by decide +kernel
theorem k182_172 : icode MCl 182 172 = some (.getfield 43, 175, 817, 792, 1) := by decide +kernel
theorem k182_175 : icode MCl 182 175 = some (.invokevirtual 170, 178, 110, 946, 0) := by decide +kernel
theorem k182_178 : icode MCl 182 178 = some (.iinc 4 1, 181, 0, 0, 1) := by decide +kernel
theorem k182_181 : icode MCl 182 181 = some (.goto (-142), 184, 39, 0, 0) := by decide +kernel
theorem k182_184 : icode MCl 182 184 = some (.iconst 0, 185, 0, 0, 0) := by decide +kernel
theorem k182_185 : icode MCl 182 185 = some (.istore 4, 187, 0, 0, 0) := by decide +kernel
theorem k182_187 : icode MCl 182 187 = some (.iconst 0, 188, 0, 0, 0) := by decide +kernel
theorem k182_188 : icode MCl 182 188 = some (.istore 5, 190, 0, 0, 0) := by decide +kernel
theorem k182_190 : icode MCl 182 190 = some (.iload 5, 192, 0, 0, 0) := by decide +kernel
theorem k182_192 : icode MCl 182 192 = some (.aload_n 0, 193, 0, 0, 0) := by decide +kernel
theorem k182_193 : icode MCl 182 193 = some (.getfield 43, 196, 817, 792, 1) := by decide +kernel
theorem k182_196 : icode MCl 182 196 = some (.iconst 2, 197, 0, 0, 2) := by decide +kernel
theorem k182_197 : icode MCl 182 197 = some (.iaload, 198, 0, 0, 0) := by decide +kernel
theorem k182_198 : icode MCl 182 198 = some (.if_icmp .ge 42, 201, 240, 0, 0) := by decide +kernel
theorem k182_201 : icode MCl 182 201 = some (.iload 4, 203, 0, 0, 0) := by decide +kernel
theorem k182_203 : icode MCl 182 203 = some (.aload_n 0, 204, 0, 0, 0) := by decide +kernel
theorem k182_204 : icode MCl 182 204 = some (.getfield 43, 207, 817, 792, 1) := by decide +kernel
theorem k182_207 : icode MCl 182 207 = some (.iload 5, 209, 0, 0, 0) := by decide +kernel
theorem k182_209 : icode MCl 182 209 = some (.iconst 1, 210, 0, 0, 1) := by decide +kernel
theorem k182_210 : icode MCl 182 210 = some (.invokestatic 135, 213, 79, 910, 0) := by decide +kernel
theorem k182_213 : icode MCl 182 213 = some (.iconst 2, 214, 0, 0, 2) := by decide +kernel
theorem k182_214 : icode MCl 182 214 = some (.if_icmp .ne 16, 217, 230, 0, 0) := by decide +kernel
theorem k182_217 : icode MCl 182 217 = some (.aload_n 0, 218, 0, 0, 0) := by decide +kernel
theorem k182_218 : icode MCl 182 218 = some (.getfield 43, 221, 817, 792, 1) := by decide +kernel
theorem k182_221 : icode MCl 182 221 = some (.iload 5, 223, 0, 0, 0) := by decide +kernel
theorem k182_223 : icode MCl 182 223 = some (.iconst 3, 224, 0, 0, 3) := by decide +kernel
theorem k182_224 : icode MCl 182 224 = some (.invokestatic 135, 227, 79, 910, 0) := by decide +kernel
theorem k182_227 : icode MCl 182 227 = some (.goto 4, 230, 231, 0, 0) := by decide +kernel
theorem k182_230 : icode MCl 182 230 = some (.iconst 0, 231, 0, 0, 0) := by decide +kernel
theorem k182_231 : icode MCl 182 231 = some (.iadd, 232, 0, 0, 0) := by decide +kernel
theorem k182_232 : icode MCl 182 232 = some (.istore 4, 234, 0, 0, 0) := by decide +kernel
theorem k182_234 : icode MCl 182 234 = some (.iinc 5 1, 237, 0, 0, 1) := by decide +kernel
theorem k182_237 : icode MCl 182 237 = some (.goto (-47), 240, 190, 0, 0) := by decide +kernel
theorem k182_240 : icode MCl 182 240 = some (.iload_n 3, 241, 0, 0, 0) := by decide +kernel
theorem k182_241 : icode MCl 182 241 = some (.ifCond .ne 13, 244, 254, 0, 0) := by decide +kernel
theorem k182_244 : icode MCl 182 244 = some (.aload_n 0, 245, 0, 0, 0) := by decide +kernel
theorem k182_245 : icode MCl 182 245 = some (.getfield 43, 248, 817, 792, 1) := by decide +kernel
theorem k182_248 : icode MCl 182 248 = some (.invokestatic 174, 251, 111, 957, 0) := by decide +kernel
theorem k182_251 : icode MCl 182 251 = some (.goto 9, 254, 260, 0, 0) := by decide +kernel
theorem k182_254 : icode MCl 182 254 = some (.iload 4, 256, 0, 0, 0) := by decide +kernel
theorem k182_256 : icode MCl 182 256 = some (.sipush 9973, 259, 0, 0, 9973) := by decide +kernel
theorem k182_259 : icode MCl 182 259 = some (.irem, 260, 0, 0, 0) := by decide +kernel
theorem k182_260 : icode MCl 182 260 = some (.ireturn, 261, 0, 0, 0) := by decide +kernel
theorem k183_0 : icode MCl 183 0 = some (.aload_n 0, 1, 0, 0, 0) := by decide +kernel
theorem k183_1 : icode MCl 183 1 = some (.getfield 51, 4, 706, 415, 1) := by decide +kernel
theorem k183_4 : icode MCl 183 4 = some (.invokevirtual 176, 7, 122, 580, 0) := by decide +kernel
theorem k183_7 : icode MCl 183 7 = some (.iconst 2, 8, 0, 0, 2) := by decide +kernel
theorem k183_8 : icode MCl 183 8 = some (.if_icmp .lt 6, 11, 14, 0, 0) := by decide +kernel
theorem k183_11 : icode MCl 183 11 = some (.bipush (-3), 13, 0, 0, (-3)) := by decide +kernel
theorem k183_13 : icode MCl 183 13 = some (.ireturn, 14, 0, 0, 0) := by decide +kernel
theorem k183_14 : icode MCl 183 14 = some (.aload_n 0, 15, 0, 0, 0) := by decide +kernel
theorem k183_15 : icode MCl 183 15 = some (.getfield 51, 18, 706, 415, 1) := by decide +kernel
theorem k183_18 : icode MCl 183 18 = some (.aload_n 0, 19, 0, 0, 0) := by decide +kernel
theorem k183_19 : icode MCl 183 19 = some (.getfield 35, 22, 703, 412, 1) := by decide +kernel
theorem k183_22 : icode MCl 183 22 = some (.invokevirtual 149, 25, 100, 515, 0) := by decide +kernel
theorem k183_25 : icode MCl 183 25 = some (.aload_n 0, 26, 0, 0, 0) := by decide +kernel
theorem k183_26 : icode MCl 183 26 = some (.getfield 51, 29, 706, 415, 1) := by decide +kernel
theorem k183_29 : icode MCl 183 29 = some (.invokevirtual 176, 32, 122, 580, 0) := by decide +kernel
theorem k183_32 : icode MCl 183 32 = some (.ireturn, 33, 0, 0, 0) := by decide +kernel
theorem k184_0 : icode MCl 184 0 = some (.aload_n 0, 1, 0, 0, 0) := by decide +kernel
theorem k184_1 : icode MCl 184 1 = some (.getfield 129, 4, 823, 798, 0) := by decide +kernel
theorem k184_4 : icode MCl 184 4 = some (.iconst 2, 5, 0, 0, 2) := by decide +kernel
theorem k184_5 : icode MCl 184 5 = some (.if_icmp .ne 6, 8, 11, 0, 0) := by decide +kernel
theorem k184_8 : icode MCl 184 8 = some (.bipush (-3), 10, 0, 0, (-3)) := by decide +kernel
theorem k184_10 : icode MCl 184 10 = some (.ireturn, 11, 0, 0, 0) := by decide +kernel
theorem k184_11 : icode MCl 184 11 = some (.iconst 0, 12, 0, 0, 0) := by decide +kernel
theorem k184_12 : icode MCl 184 12 = some (.istore_n 1, 13, 0, 0, 0) := by decide +kernel
theorem k184_13 : icode MCl 184 13 = some (.iload_n 1, 14, 0, 0, 0) := by decide +kernel
theorem k184_14 : icode MCl 184 14 = some (.bipush 39, 16, 0, 0, 39) := by decide +kernel
theorem k184_16 : icode MCl 184 16 = some (.if_icmp .ge 29, 19, 45, 0, 0) := by decide +kernel
theorem k184_19 : icode MCl 184 19 = some (.aload_n 0, 20, 0, 0, 0) := by decide +kernel
theorem k184_20 : icode MCl 184 20 = some (.getfield 52, 23, 824, 799, 1) := by decide +kernel
theorem k184_23 : icode MCl 184 23 = some (.bipush 39, 25, 0, 0, 39) := by decide +kernel
theorem k184_25 : icode MCl 184 25 = some (.aload_n 0, 26, 0, 0, 0) := by decide +kernel
theorem k184_26 : icode MCl 184 26 = some (.getfield 129, 29, 823, 798, 0) := by decide +kernel
theorem k184_29 : icode MCl 184 29 = some (.imul, 30, 0, 0, 0) := by decide +kernel
theorem k184_30 : icode MCl 184 30 = some (.iload_n 1, 31, 0, 0, 0) := by decide +kernel
theorem k184_31 : icode MCl 184 31 = some (.iadd, 32, 0, 0, 0) := by decide +kernel
theorem k184_32 : icode MCl 184 32 = some (.aload_n 0, 33, 0, 0, 0) := by decide +kernel
theorem k184_33 : icode MCl 184 33 = some (.getfield 40, 36, 816, 791, 1) := by decide +kernel
theorem k184_36 : icode MCl 184 36 = some (.iload_n 1, 37, 0, 0, 0) := by decide +kernel
theorem k184_37 : icode MCl 184 37 = some (.iaload, 38, 0, 0, 0) := by decide +kernel
theorem k184_38 : icode MCl 184 38 = some (.iastore, 39, 0, 0, 0) := by decide +kernel
theorem k184_39 : icode MCl 184 39 = some (.iinc 1 1, 42, 0, 0, 1) := by decide +kernel
theorem k184_42 : icode MCl 184 42 = some (.goto (-29), 45, 13, 0, 0) := by decide +kernel
theorem k184_45 : icode MCl 184 45 = some (.aload_n 0, 46, 0, 0, 0) := by decide +kernel
theorem k184_46 : icode MCl 184 46 = some (.dup, 47, 0, 0, 0) := by decide +kernel
theorem k184_47 : icode MCl 184 47 = some (.getfield 129, 50, 823, 798, 0) := by decide +kernel
theorem k184_50 : icode MCl 184 50 = some (.iconst 1, 51, 0, 0, 1) := by decide +kernel
theorem k184_51 : icode MCl 184 51 = some (.iadd, 52, 0, 0, 0) := by decide +kernel
theorem k184_52 : icode MCl 184 52 = some (.putfield 129, 55, 823, 798, 0) := by decide +kernel
theorem k184_55 : icode MCl 184 55 = some (.aload_n 0, 56, 0, 0, 0) := by decide +kernel
theorem k184_56 : icode MCl 184 56 = some (.getfield 129, 59, 823, 798, 0) := by decide +kernel
theorem k184_59 : icode MCl 184 59 = some (.ireturn, 60, 0, 0, 0) := by decide +kernel
theorem k185_0 : icode MCl 185 0 = some (.aload_n 0, 1, 0, 0, 0) := by decide +kernel
theorem k185_1 : icode MCl 185 1 = some (.getfield 51, 4, 706, 415, 1) := by decide +kernel
theorem k185_4 : icode MCl 185 4 = some (.aload_n 0, 5, 0, 0, 0) := by decide +kernel
theorem k185_5 : icode MCl 185 5 = some (.getfield 35, 8, 703, 412, 1) := by decide +kernel
theorem k185_8 : icode MCl 185 8 = some (.invokevirtual 172, 11, 121, 576, 0) := by decide +kernel
theorem k185_11 : icode MCl 185 11 = some (.ifCond .ne 6, 14, 17, 0, 0) := by decide +kernel
theorem k185_14 : icode MCl 185 14 = some (.bipush (-2), 16, 0, 0, (-2)) := by decide +kernel
theorem k185_16 : icode MCl 185 16 = some (.ireturn, 17, 0, 0, 0) := by decide +kernel
theorem k185_17 : icode MCl 185 17 = some (.aload_n 0, 18, 0, 0, 0) := by decide +kernel
theorem k185_18 : icode MCl 185 18 = some (.getfield 47, 21, 705, 414, 1) := by decide +kernel
theorem k185_21 : icode MCl 185 21 = some (.invokevirtual 237, 24, 48, 401, 0) := by decide +kernel
theorem k185_24 : icode MCl 185 24 = some (.aload_n 0, 25, 0, 0, 0) := by decide +kernel
theorem k185_25 : icode MCl 185 25 = some (.getfield 51, 28, 706, 415, 1) := by decide +kernel
theorem k185_28 : icode MCl 185 28 = some (.invokevirtual 176, 31, 122, 580, 0) := by decide +kernel
theorem k185_31 : icode MCl 185 31 = some (.ireturn, 32, 0, 0, 0) := by decide +kernel
theorem k186_0 : icode MCl 186 0 = some (.aload_n 0, 1, 0, 0, 0) := by decide +kernel
theorem k186_1 : icode MCl 186 1 = some (.getfield 129, 4, 823, 798, 0) := by decide +kernel
theorem k186_4 : icode MCl 186 4 = some (.ifCond .ne 6, 7, 10, 0, 0) := by decide +kernel
theorem k186_7 : icode MCl 186 7 = some (.bipush (-2), 9, 0, 0, (-2)) := by decide +kernel
theorem k186_9 : icode MCl 186 9 = some (.ireturn, 10, 0, 0, 0) := by decide +kernel
theorem k186_10 : icode MCl 186 10 = some (.aload_n 0, 11, 0, 0, 0) := by decide +kernel
theorem k186_11 : icode MCl 186 11 = some (.dup, 12, 0, 0, 0) := by decide +kernel
theorem k186_12 : icode MCl 186 12 = some (.getfield 129, 15, 823, 798, 0) := by decide +kernel
theorem k186_15 : icode MCl 186 15 = some (.iconst 1, 16, 0, 0, 1) := by decide +kernel
theorem k186_16 : icode MCl 186 16 = some (.isub, 17, 0, 0, 0) := by decide +kernel
theorem k186_17 : icode MCl 186 17 = some (.putfield 129, 20, 823, 798, 0) := by decide +kernel
theorem k186_20 : icode MCl 186 20 = some (.iconst 0, 21, 0, 0, 0) := by decide +kernel
theorem k186_21 : icode MCl 186 21 = some (.istore_n 1, 22, 0, 0, 0) := by decide +kernel
theorem k186_22 : icode MCl 186 22 = some (.iload_n 1, 23, 0, 0, 0) := by decide +kernel
theorem k186_23 : icode MCl 186 23 = some (.bipush 39, 25, 0, 0, 39) := by decide +kernel
theorem k186_25 : icode MCl 186 25 = some (.if_icmp .ge 29, 28, 54, 0, 0) := by decide +kernel
theorem k186_28 : icode MCl 186 28 = some (.aload_n 0, 29, 0, 0, 0) := by decide +kernel
theorem k186_29 : icode MCl 186 29 = some (.getfield 40, 32, 816, 791, 1) := by decide +kernel
theorem k186_32 : icode MCl 186 32 = some (.iload_n 1, 33, 0, 0, 0) := by decide +kernel
theorem k186_33 : icode MCl 186 33 = some (.aload_n 0, 34, 0, 0, 0) := by decide +kernel
theorem k186_34 : icode MCl 186 34 = some (.getfield 52, 37, 824, 799, 1) := by decide +kernel
theorem k186_37 : icode MCl 186 37 = some (.bipush 39, 39, 0, 0, 39) := by decide +kernel
theorem k186_39 : icode MCl 186 39 = some (.aload_n 0, 40, 0, 0, 0) := by decide +kernel
theorem k186_40 : icode MCl 186 40 = some (.getfield 129, 43, 823, 798, 0) := by decide +kernel
theorem k186_43 : icode MCl 186 43 = some (.imul, 44, 0, 0, 0) := by decide +kernel
theorem k186_44 : icode MCl 186 44 = some (.iload_n 1, 45, 0, 0, 0) := by decide +kernel
theorem k186_45 : icode MCl 186 45 = some (.iadd, 46, 0, 0, 0) := by decide +kernel
theorem k186_46 : icode MCl 186 46 = some (.iaload, 47, 0, 0, 0) := by decide +kernel
theorem k186_47 : icode MCl 186 47 = some (.iastore, 48, 0, 0, 0) := by decide +kernel
theorem k186_48 : icode MCl 186 48 = some (.iinc 1 1, 51, 0, 0, 1) := by decide +kernel
theorem k186_51 : icode MCl 186 51 = some (.goto (-29), 54, 22, 0, 0) := by decide +kernel
theorem k186_54 : icode MCl 186 54 = some (.aload_n 0, 55, 0, 0, 0) := by decide +kernel
theorem k186_55 : icode MCl 186 55 = some (.iconst 0, 56, 0, 0, 0) := by decide +kernel
theorem k186_56 : icode MCl 186 56 = some (.putfield 126, 59, 818, 793, 0) := by decide +kernel
theorem k186_59 : icode MCl 186 59 = some (.aload_n 0, 60, 0, 0, 0) := by decide +kernel
theorem k186_60 : icode MCl 186 60 = some (.getfield 129, 63, 823, 798, 0) := by decide +kernel
theorem k186_63 : icode MCl 186 63 = some (.ireturn, 64, 0, 0, 0) := by decide +kernel
theorem k187_0 : icode MCl 187 0 = some (.aload_n 0, 1, 0, 0, 0) := by decide +kernel
theorem k187_1 : icode MCl 187 1 = some (.getfield 29, 4, 204, 148, 0) := by decide +kernel
theorem k187_4 : icode MCl 187 4 = some (.invokestatic 48, 7, 143, 749, 0) := by decide +kernel
theorem k187_7 : icode MCl 187 7 = some (.ireturn, 8, 0, 0, 0) := by decide +kernel
theorem k188_0 : icode MCl 188 0 = some (.iload_n 1, 1, 0, 0, 0) := by decide +kernel
theorem k188_1 : icode MCl 188 1 = some (.tableswitch 137 0 9 #[55, 63, 71, 79, 87, 96, 105, 113, 121, 129], 56, 0, 0, 0) := by decide +kernel
theorem k188_56 : icode MCl 188 56 = some (.aload_n 0, 57, 0, 0, 0) := by decide +kernel
theorem k188_57 : icode MCl 188 57 = some (.getfield 28, 60, 702, 411, 1) := by decide +kernel
theorem k188_60 : icode MCl 188 60 = some (.invokevirtual 92, 63, 72, 453, 0) := by decide +kernel
theorem k188_63 : icode MCl 188 63 = some (.ireturn, 64, 0, 0, 0) := by decide +kernel
theorem k188_64 : icode MCl 188 64 = some (.aload_n 0, 65, 0, 0, 0) := by decide +kernel
theorem k188_65 : icode MCl 188 65 = some (.getfield 35, 68, 703, 412, 1) := by decide +kernel
theorem k188_68 : icode MCl 188 68 = some (.invokevirtual 166, 71, 115, 559, 0) := by decide +kernel
theorem k188_71 : icode MCl 188 71 = some (.ireturn, 72, 0, 0, 0) := by decide +kernel
theorem k188_72 : icode MCl 188 72 = some (.aload_n 0, 73, 0, 0, 0) := by decide +kernel
theorem k188_73 : icode MCl 188 73 = some (.getfield 35, 76, 703, 412, 1) := by decide +kernel
theorem k188_76 : icode MCl 188 76 = some (.invokevirtual 167, 79, 116, 563, 0) := by decide +kernel
theorem k188_79 : icode MCl 188 79 = some (.ireturn, 80, 0, 0, 0) := by decide +kernel
theorem k188_80 : icode MCl 188 80 = some (.aload_n 0, 81, 0, 0, 0) := by decide +kernel
theorem k188_81 : icode MCl 188 81 = some (.getfield 35, 84, 703, 412, 1) := by decide +kernel
theorem k188_84 : icode MCl 188 84 = some (.invokevirtual 238, 87, 187, 745, 0) := by decide +kernel
theorem k188_87 : icode MCl 188 87 = some (.ireturn, 88, 0, 0, 0) := by decide +kernel
theorem k188_88 : icode MCl 188 88 = some (.aload_n 0, 89, 0, 0, 0) := by decide +kernel
theorem k188_89 : icode MCl 188 89 = some (.getfield 35, 92, 703, 412, 1) := by decide +kernel
theorem k188_92 : icode MCl 188 92 = some (.iconst 1, 93, 0, 0, 1) := by decide +kernel
theorem k188_93 : icode MCl 188 93 = some (.invokevirtual 157, 96, 105, 545, 0) := by decide +kernel
theorem k188_96 : icode MCl 188 96 = some (.ireturn, 97, 0, 0, 0) := by decide +kernel
theorem k188_97 : icode MCl 188 97 = some (.aload_n 0, 98, 0, 0, 0) := by decide +kernel
theorem k188_98 : icode MCl 188 98 = some (.getfield 35, 101, 703, 412, 1) := by decide +kernel
theorem k188_101 : icode MCl 188 101 = some (.iconst 2, 102, 0, 0, 2) := by decide +kernel
theorem k188_102 : icode MCl 188 102 = some (.invokevirtual 157, 105, 105, 545, 0) := by decide +kernel
theorem k188_105 : icode MCl 188 105 = some (.ireturn, 106, 0, 0, 0) := by decide +kernel
theorem k188_106 : icode MCl 188 106 = some (.aload_n 0, 107, 0, 0, 0) := by decide +kernel
theorem k188_107 : icode MCl 188 107 = some (.getfield 57, 110, 707, 416, 1) := by decide +kernel
theorem k188_110 : icode MCl 188 110 = some (.invokevirtual 206, 113, 157, 668, 0) := by decide +kernel
theorem k188_113 : icode MCl 188 113 = some (.ireturn, 114, 0, 0, 0) := by decide +kernel
theorem k188_114 : icode MCl 188 114 = some (.aload_n 0, 115, 0, 0, 0) := by decide +kernel
theorem k188_115 : icode MCl 188 115 = some (.getfield 47, 118, 705, 414, 1) := by decide +kernel
theorem k188_118 : icode MCl 188 118 = some (.invokevirtual 176, 121, 122, 580, 0) := by decide +kernel
theorem k188_121 : icode MCl 188 121 = some (.ireturn, 122, 0, 0, 0) := by decide +kernel
theorem k188_122 : icode MCl 188 122 = some (.aload_n 0, 123, 0, 0, 0) := by decide +kernel
theorem k188_123 : icode MCl 188 123 = some (.getfield 51, 126, 706, 415, 1) := by decide +kernel
theorem k188_126 : icode MCl 188 126 = some (.invokevirtual 176, 129, 122, 580, 0) := by decide +kernel
theorem k188_129 : icode MCl 188 129 = some (.ireturn, 130, 0, 0, 0) := by decide +kernel
theorem k188_130 : icode MCl 188 130 = some (.aload_n 0, 131, 0, 0, 0) := by decide +kernel
theorem k188_131 : icode MCl 188 131 = some (.getfield 10, 134, 700, 409, 1) := by decide +kernel
theorem k188_134 : icode MCl 188 134 = some (.invokevirtual 90, 137, 19, 440, 0) := by decide +kernel
theorem k188_137 : icode MCl 188 137 = some (.ireturn, 138, 0, 0, 0) := by decide +kernel
theorem k188_138 : icode MCl 188 138 = some (.iconst (-1), 139, 0, 0, (-1)) := by decide +kernel
theorem k188_139 : icode MCl 188 139 = some (.ireturn, 140, 0, 0, 0) := by decide +kernel
theorem k189_0 : icode MCl 189 0 = some (.iconst 0, 1, 0, 0, 0) := by decide +kernel
theorem k189_1 : icode MCl 189 1 = some (.istore_n 1, 2, 0, 0, 0) := by decide +kernel
theorem k189_2 : icode MCl 189 2 = some (.iconst 0, 3, 0, 0, 0) := by decide +kernel
theorem k189_3 : icode MCl 189 3 = some (.istore_n 2, 4, 0, 0, 0) := by decide +kernel
theorem k189_4 : icode MCl 189 4 = some (.iload_n 2, 5, 0, 0, 0) := by decide +kernel
theorem k189_5 : icode MCl 189 5 = some (.aload_n 0, 6, 0, 0, 0) := by decide +kernel
theorem k189_6 : icode MCl 189 6 = some (.getfield 40, 9, 816, 791, 1) := by decide +kernel
theorem k189_9 : icode MCl 189 9 = some (.iconst 2, 10, 0, 0, 2) := by decide +kernel
theorem k189_10 : icode MCl 189 10 = some (.iaload, 11, 0, 0, 0) := by decide +kernel
theorem k189_11 : icode MCl 189 11 = some (.if_icmp .ge 30, 14, 41, 0, 0) := by decide +kernel
theorem k189_14 : icode MCl 189 14 = some (.iload_n 1, 15, 0, 0, 0) := by decide +kernel
theorem k189_15 : icode MCl 189 15 = some (.aload_n 0, 16, 0, 0, 0) := by decide +kernel
theorem k189_16 : icode MCl 189 16 = some (.getfield 40, 19, 816, 791, 1) := by decide +kernel
theorem k189_19 : icode MCl 189 19 = some (.iload_n 2, 20, 0, 0, 0) := by decide +kernel
theorem k189_20 : icode MCl 189 20 = some (.iconst 1, 21, 0, 0, 1) := by decide +kernel
theorem k189_21 : icode MCl 189 21 = some (.invokestatic 135, 24, 79, 910, 0) := by decide +kernel
theorem k189_24 : icode MCl 189 24 = some (.iconst 1, 25, 0, 0, 1) := by decide +kernel
theorem k189_25 : icode MCl 189 25 = some (.if_icmp .ne 7, 28, 32, 0, 0) := by decide +kernel
theorem k189_28 : icode MCl 189 28 = some (.iconst 1, 29, 0, 0, 1) := by decide +kernel
theorem k189_29 : icode MCl 189 29 = some (.goto 4, 32, 33, 0, 0) := by decide +kernel
theorem k189_32 : icode MCl 189 32 = some (.iconst 0, 33, 0, 0, 0) := by decide +kernel
theorem k189_33 : icode MCl 189 33 = some (.iadd, 34, 0, 0, 0) := by decide +kernel
theorem k189_34 : icode MCl 189 34 = some (.istore_n 1, 35, 0, 0, 0) := by decide +kernel
theorem k189_35 : icode MCl 189 35 = some (.iinc 2 1, 38, 0, 0, 1) := by decide +kernel
theorem k189_38 : icode MCl 189 38 = some (.goto (-34), 41, 4, 0, 0) := by decide +kernel
theorem k189_41 : icode MCl 189 41 = some (.iload_n 1, 42, 0, 0, 0) := by decide +kernel
theorem k189_42 : icode MCl 189 42 = some (.ireturn, 43, 0, 0, 0) := by decide +kernel
theorem k190_0 : icode MCl 190 0 = some (.iload_n 1, 1, 0, 0, 0) := by decide +kernel
theorem k190_1 : icode MCl 190 1 = some (.tableswitch 117 0 9 #[55, 60, 67, 74, 84, 89, 97, 102, 107, 112], 56, 0, 0, 0) := by decide +kernel
theorem k190_56 : icode MCl 190 56 = some (.aload_n 0, 57, 0, 0, 0) := by decide +kernel
theorem k190_57 : icode MCl 190 57 = some (.getfield 119, 60, 812, 787, 0) := by decide +kernel
theorem k190_60 : icode MCl 190 60 = some (.ireturn, 61, 0, 0, 0) := by decide +kernel
theorem k190_61 : icode MCl 190 61 = some (.aload_n 0, 62, 0, 0, 0) := by decide +kernel
theorem k190_62 : icode MCl 190 62 = some (.getfield 40, 65, 816, 791, 1) := by decide +kernel
theorem k190_65 : icode MCl 190 65 = some (.iconst 2, 66, 0, 0, 2) := by decide +kernel
theorem k190_66 : icode MCl 190 66 = some (.iaload, 67, 0, 0, 0) := by decide +kernel
theorem k190_67 : icode MCl 190 67 = some (.ireturn, 68, 0, 0, 0) := by decide +kernel
theorem k190_68 : icode MCl 190 68 = some (.aload_n 0, 69, 0, 0, 0) := by decide +kernel
theorem k190_69 : icode MCl 190 69 = some (.getfield 40, 72, 816, 791, 1) := by decide +kernel
theorem k190_72 : icode MCl 190 72 = some (.iconst 0, 73, 0, 0, 0) := by decide +kernel
theorem k190_73 : icode MCl 190 73 = some (.iaload, 74, 0, 0, 0) := by decide +kernel
theorem k190_74 : icode MCl 190 74 = some (.ireturn, 75, 0, 0, 0) := by decide +kernel
theorem k190_75 : icode MCl 190 75 = some (.aload_n 0, 76, 0, 0, 0) := by decide +kernel
theorem k190_76 : icode MCl 190 76 = some (.getfield 40, 79, 816, 791, 1) := by decide +kernel
theorem k190_79 : icode MCl 190 79 = some (.iconst 1, 80, 0, 0, 1) := by decide +kernel
theorem k190_80 : icode MCl 190 80 = some (.iaload, 81, 0, 0, 0) := by decide +kernel
theorem k190_81 : icode MCl 190 81 = some (.invokestatic 188, 84, 145, 1008, 0) := by decide +kernel
theorem k190_84 : icode MCl 190 84 = some (.ireturn, 85, 0, 0, 0) := by decide +kernel
theorem k190_85 : icode MCl 190 85 = some (.aload_n 0, 86, 0, 0, 0) := by decide +kernel
theorem k190_86 : icode MCl 190 86 = some (.invokevirtual 220, 89, 189, 1083, 0) := by decide +kernel
theorem k190_89 : icode MCl 190 89 = some (.ireturn, 90, 0, 0, 0) := by decide +kernel
theorem k190_90 : icode MCl 190 90 = some (.aload_n 0, 91, 0, 0, 0) := by decide +kernel
theorem k190_91 : icode MCl 190 91 = some (.getfield 40, 94, 816, 791, 1) := by decide +kernel
theorem k190_94 : icode MCl 190 94 = some (.invokestatic 174, 97, 111, 957, 0) := by decide +kernel
theorem k190_97 : icode MCl 190 97 = some (.ireturn, 98, 0, 0, 0) := by decide +kernel
theorem k190_98 : icode MCl 190 98 = some (.aload_n 0, 99, 0, 0, 0) := by decide +kernel
theorem k190_99 : icode MCl 190 99 = some (.getfield 132, 102, 821, 796, 0) := by decide +kernel
theorem k190_102 : icode MCl 190 102 = some (.ireturn, 103, 0, 0, 0) := by decide +kernel
theorem k190_103 : icode MCl 190 103 = some (.aload_n 0, 104, 0, 0, 0) := by decide +kernel
theorem k190_104 : icode MCl 190 104 = some (.getfield 126, 107, 818, 793, 0) := by decide +kernel
theorem k190_107 : icode MCl 190 107 = some (.ireturn, 108, 0, 0, 0) := by decide +kernel
theorem k190_108 : icode MCl 190 108 = some (.aload_n 0, 109, 0, 0, 0) := by decide +kernel
theorem k190_109 : icode MCl 190 109 = some (.getfield 129, 112, 823, 798, 0) := by decide +kernel
theorem k190_112 : icode MCl 190 112 = some (.ireturn, 113, 0, 0, 0) := by decide +kernel
theorem k190_113 : icode MCl 190 113 = some (.aload_n 0, 114, 0, 0, 0) := by decide +kernel
theorem k190_114 : icode MCl 190 114 = some (.getfield 90, 117, 800, 775, 0) := by decide +kernel
theorem k190_117 : icode MCl 190 117 = some (.ireturn, 118, 0, 0, 0) := by decide +kernel
theorem k190_118 : icode MCl 190 118 = some (.iconst (-1), 119, 0, 0, (-1)) := by decide +kernel
theorem k190_119 : icode MCl 190 119 = some (.ireturn, 120, 0, 0, 0) := by decide +kernel
theorem k191_0 : icode MCl 191 0 = some (.new 7, 3, 7, 56, 0) := by decide +kernel
theorem k191_3 : icode MCl 191 3 = some (.dup, 4, 0, 0, 0) := by decide +kernel
theorem k191_4 : icode MCl 191 4 = some (.invokespecial 9, 7, 51, 58, 0) := by decide +kernel
theorem k191_7 : icode MCl 191 7 = some (.astore_n 1, 8, 0, 0, 0) := by decide +kernel
theorem k191_8 : icode MCl 191 8 = some (.new 10, 11, 8, 750, 0) := by decide +kernel
theorem k191_11 : icode MCl 191 11 = some (.dup, 12, 0, 0, 0) := by decide +kernel
theorem k191_12 : icode MCl 191 12 = some (.invokespecial 12, 15, 57, 752, 0) := by decide +kernel
theorem k191_15 : icode MCl 191 15 = some (.astore_n 2, 16, 0, 0, 0) := by decide +kernel
theorem k191_16 : icode MCl 191 16 = some (.iconst 0, 17, 0, 0, 0) := by decide +kernel
theorem k191_17 : icode MCl 191 17 = some (.istore_n 3, 18, 0, 0, 0) := by decide +kernel
theorem k191_18 : icode MCl 191 18 = some (.iload_n 3, 19, 0, 0, 0) := by decide +kernel
theorem k191_19 : icode MCl 191 19 = some (.aload_n 0, 20, 0, 0, 0) := by decide +kernel
theorem k191_20 : icode MCl 191 20 = some (.arraylength, 21, 0, 0, 0) := by decide +kernel
theorem k191_21 : icode MCl 191 21 = some (.iconst 5, 22, 0, 0, 5) := by decide +kernel
theorem k191_22 : icode MCl 191 22 = some (.isub, 23, 0, 0, 0) := by decide +kernel
theorem k191_23 : icode MCl 191 23 = some (.if_icmp .gt 887, 26, 910, 0, 0) := by decide +kernel
theorem k191_26 : icode MCl 191 26 = some (.aload_n 0, 27, 0, 0, 0) := by decide +kernel
theorem k191_27 : icode MCl 191 27 = some (.iload_n 3, 28, 0, 0, 0) := by decide +kernel
theorem k191_28 : icode MCl 191 28 = some (.iaload, 29, 0, 0, 0) := by decide +kernel
theorem k191_29 : icode MCl 191 29 = some (.bipush 31, 31, 0, 0, 31) := by decide +kernel
theorem k191_31 : icode MCl 191 31 = some (.iand, 32, 0, 0, 0) := by decide +kernel
theorem k191_32 : icode MCl 191 32 = some (.tableswitch 872 0 27 #[128, 151, 164, 177, 190, 223, 256, 289, 312, 335, 368, 401, 414, 457, 490, 523, 556, 579, 612, 635, 678, 691, 714, 727, 780, 823, 836, 849], 160, 0, 0, 0) := by decide +kernel
theorem k191_160 : icode MCl 191 160 = some (.aload_n 1, 161, 0, 0, 0) := by decide +kernel
theorem k191_161 : icode MCl 191 161 = some (.aload_n 0, 162, 0, 0, 0) := by decide +kernel
theorem k191_162 : icode MCl 191 162 = some (.iload_n 3, 163, 0, 0, 0) := by decide +kernel
theorem k191_163 : icode MCl 191 163 = some (.iconst 1, 164, 0, 0, 1) := by decide +kernel
theorem k191_164 : icode MCl 191 164 = some (.iadd, 165, 0, 0, 0) := by decide +kernel
theorem k191_165 : icode MCl 191 165 = some (.iaload, 166, 0, 0, 0) := by decide +kernel
theorem k191_166 : icode MCl 191 166 = some (.invokevirtual 13, 169, 58, 435, 0) := by decide +kernel
theorem k191_169 : icode MCl 191 169 = some (.aload_n 2, 170, 0, 0, 0) := by decide +kernel
theorem k191_170 : icode MCl 191 170 = some (.aload_n 0, 171, 0, 0, 0) := by decide +kernel
theorem k191_171 : icode MCl 191 171 = some (.iload_n 3, 172, 0, 0, 0) := by decide +kernel
theorem k191_172 : icode MCl 191 172 = some (.iconst 1, 173, 0, 0, 1) := by decide +kernel
theorem k191_173 : icode MCl 191 173 = some (.iadd, 174, 0, 0, 0) := by decide +kernel
theorem k191_174 : icode MCl 191 174 = some (.iaload, 175, 0, 0, 0) := by decide +kernel
theorem k191_175 : icode MCl 191 175 = some (.invokevirtual 17, 178, 60, 851, 0) := by decide +kernel
theorem k191_178 : icode MCl 191 178 = some (.if_icmp .eq 726, 181, 904, 0, 0) := by decide +kernel
theorem k191_181 : icode MCl 191 181 = some (.iconst 0, 182, 0, 0, 0) := by decide +kernel
theorem k191_182 : icode MCl 191 182 = some (.ireturn, 183, 0, 0, 0) := by decide +kernel
theorem k191_183 : icode MCl 191 183 = some (.aload_n 1, 184, 0, 0, 0) := by decide +kernel
theorem k191_184 : icode MCl 191 184 = some (.invokevirtual 18, 187, 61, 441, 0) := by decide +kernel
theorem k191_187 : icode MCl 191 187 = some (.aload_n 2, 188, 0, 0, 0) := by decide +kernel
theorem k191_188 : icode MCl 191 188 = some (.invokevirtual 22, 191, 62, 858, 0) := by decide +kernel
theorem k191_191 : icode MCl 191 191 = some (.if_icmp .eq 713, 194, 904, 0, 0) := by decide +kernel
theorem k191_194 : icode MCl 191 194 = some (.iconst 0, 195, 0, 0, 0) := by decide +kernel
theorem k191_195 : icode MCl 191 195 = some (.ireturn, 196, 0, 0, 0) := by decide +kernel
theorem k191_196 : icode MCl 191 196 = some (.aload_n 1, 197, 0, 0, 0) := by decide +kernel
theorem k191_197 : icode MCl 191 197 = some (.invokevirtual 23, 200, 63, 445, 0) := by decide +kernel
theorem k191_200 : icode MCl 191 200 = some (.aload_n 2, 201, 0, 0, 0) := by decide +kernel
theorem k191_201 : icode MCl 191 201 = some (.invokevirtual 26, 204, 71, 862, 0) := by decide +kernel
theorem k191_204 : icode MCl 191 204 = some (.if_icmp .eq 700, 207, 904, 0, 0) := by decide +kernel
theorem k191_207 : icode MCl 191 207 = some (.iconst 0, 208, 0, 0, 0) := by decide +kernel
theorem k191_208 : icode MCl 191 208 = some (.ireturn, 209, 0, 0, 0) := by decide +kernel
theorem k191_209 : icode MCl 191 209 = some (.aload_n 1, 210, 0, 0, 0) := by decide +kernel
theorem k191_210 : icode MCl 191 210 = some (.invokevirtual 27, 213, 73, 449, 0) := by decide +kernel
theorem k191_213 : icode MCl 191 213 = some (.aload_n 2, 214, 0, 0, 0) := by decide +kernel
theorem k191_214 : icode MCl 191 214 = some (.invokevirtual 30, 217, 74, 894, 0) := by decide +kernel
theorem k191_217 : icode MCl 191 217 = some (.if_icmp .eq 687, 220, 904, 0, 0) := by decide +kernel
theorem k191_220 : icode MCl 191 220 = some (.iconst 0, 221, 0, 0, 0) := by decide +kernel
theorem k191_221 : icode MCl 191 221 = some (.ireturn, 222, 0, 0, 0) := by decide +kernel
theorem k191_222 : icode MCl 191 222 = some (.aload_n 1, 223, 0, 0, 0) := by decide +kernel
theorem k191_223 : icode MCl 191 223 = some (.aload_n 0, 224, 0, 0, 0) := by decide +kernel
theorem k191_224 : icode MCl 191 224 = some (.iload_n 3, 225, 0, 0, 0) := by decide +kernel
theorem k191_225 : icode MCl 191 225 = some (.iconst 1, 226, 0, 0, 1) := by decide +kernel
theorem k191_226 : icode MCl 191 226 = some (.iadd, 227, 0, 0, 0) := by decide +kernel
theorem k191_227 : icode MCl 191 227 = some (.iaload, 228, 0, 0, 0) := by decide +kernel
theorem k191_228 : icode MCl 191 228 = some (.aload_n 0, 229, 0, 0, 0) := by decide +kernel
theorem k191_229 : icode MCl 191 229 = some (.iload_n 3, 230, 0, 0, 0) := by decide +kernel
theorem k191_230 : icode MCl 191 230 = some (.iconst 2, 231, 0, 0, 2) := by decide +kernel
theorem k191_231 : icode MCl 191 231 = some (.iadd, 232, 0, 0, 0) := by decide +kernel
theorem k191_232 : icode MCl 191 232 = some (.iaload, 233, 0, 0, 0) := by decide +kernel
theorem k191_233 : icode MCl 191 233 = some (.invokevirtual 31, 236, 77, 457, 0) := by decide +kernel
theorem k191_236 : icode MCl 191 236 = some (.aload_n 2, 237, 0, 0, 0) := by decide +kernel
theorem k191_237 : icode MCl 191 237 = some (.aload_n 0, 238, 0, 0, 0) := by decide +kernel
theorem k191_238 : icode MCl 191 238 = some (.iload_n 3, 239, 0, 0, 0) := by decide +kernel
theorem k191_239 : icode MCl 191 239 = some (.iconst 1, 240, 0, 0, 1) := by decide +kernel
theorem k191_240 : icode MCl 191 240 = some (.iadd, 241, 0, 0, 0) := by decide +kernel
theorem k191_241 : icode MCl 191 241 = some (.iaload, 242, 0, 0, 0) := by decide +kernel
theorem k191_242 : icode MCl 191 242 = some (.aload_n 0, 243, 0, 0, 0) := by decide +kernel
theorem k191_243 : icode MCl 191 243 = some (.iload_n 3, 244, 0, 0, 0) := by decide +kernel
theorem k191_244 : icode MCl 191 244 = some (.iconst 2, 245, 0, 0, 2) := by decide +kernel
theorem k191_245 : icode MCl 191 245 = some (.iadd, 246, 0, 0, 0) := by decide +kernel
theorem k191_246 : icode MCl 191 246 = some (.iaload, 247, 0, 0, 0) := by decide +kernel
theorem k191_247 : icode MCl 191 247 = some (.invokevirtual 35, 250, 81, 898, 0) := by decide +kernel
theorem k191_250 : icode MCl 191 250 = some (.if_icmp .eq 654, 253, 904, 0, 0) := by decide +kernel
theorem k191_253 : icode MCl 191 253 = some (.iconst 0, 254, 0, 0, 0) := by decide +kernel
theorem k191_254 : icode MCl 191 254 = some (.ireturn, 255, 0, 0, 0) := by decide +kernel
theorem k191_255 : icode MCl 191 255 = some (.aload_n 1, 256, 0, 0, 0) := by decide +kernel
theorem k191_256 : icode MCl 191 256 = some (.aload_n 0, 257, 0, 0, 0) := by decide +kernel
theorem k191_257 : icode MCl 191 257 = some (.iload_n 3, 258, 0, 0, 0) := by decide +kernel
theorem k191_258 : icode MCl 191 258 = some (.iconst 1, 259, 0, 0, 1) := by decide +kernel
theorem k191_259 : icode MCl 191 259 = some (.iadd, 260, 0, 0, 0) := by decide +kernel
theorem k191_260 : icode MCl 191 260 = some (.iaload, 261, 0, 0, 0) := by decide +kernel
theorem k191_261 : icode MCl 191 261 = some (.aload_n 0, 262, 0, 0, 0) := by decide +kernel
theorem k191_262 : icode MCl 191 262 = some (.iload_n 3, 263, 0, 0, 0) := by decide +kernel
theorem k191_263 : icode MCl 191 263 = some (.iconst 2, 264, 0, 0, 2) := by decide +kernel
theorem k191_264 : icode MCl 191 264 = some (.iadd, 265, 0, 0, 0) := by decide +kernel
theorem k191_265 : icode MCl 191 265 = some (.iaload, 266, 0, 0, 0) := by decide +kernel
theorem k191_266 : icode MCl 191 266 = some (.invokevirtual 36, 269, 83, 474, 0) := by decide +kernel
theorem k191_269 : icode MCl 191 269 = some (.aload_n 2, 270, 0, 0, 0) := by decide +kernel
theorem k191_270 : icode MCl 191 270 = some (.aload_n 0, 271, 0, 0, 0) := by decide +kernel
theorem k191_271 : icode MCl 191 271 = some (.iload_n 3, 272, 0, 0, 0) := by decide +kernel
theorem k191_272 : icode MCl 191 272 = some (.iconst 1, 273, 0, 0, 1) := by decide +kernel
theorem k191_273 : icode MCl 191 273 = some (.iadd, 274, 0, 0, 0) := by decide +kernel
theorem k191_274 : icode MCl 191 274 = some (.iaload, 275, 0, 0, 0) := by decide +kernel
theorem k191_275 : icode MCl 191 275 = some (.aload_n 0, 276, 0, 0, 0) := by decide +kernel
theorem k191_276 : icode MCl 191 276 = some (.iload_n 3, 277, 0, 0, 0) := by decide +kernel
theorem k191_277 : icode MCl 191 277 = some (.iconst 2, 278, 0, 0, 2) := by decide +kernel
theorem k191_278 : icode MCl 191 278 = some (.iadd, 279, 0, 0, 0) := by decide +kernel
theorem k191_279 : icode MCl 191 279 = some (.iaload, 280, 0, 0, 0) := by decide +kernel
theorem k191_280 : icode MCl 191 280 = some (.invokevirtual 39, 283, 85, 913, 0) := by decide +kernel
theorem k191_283 : icode MCl 191 283 = some (.if_icmp .eq 621, 286, 904, 0, 0) := by decide +kernel
theorem k191_286 : icode MCl 191 286 = some (.iconst 0, 287, 0, 0, 0) := by decide +kernel
theorem k191_287 : icode MCl 191 287 = some (.ireturn, 288, 0, 0, 0) := by decide +kernel
theorem k191_288 : icode MCl 191 288 = some (.aload_n 1, 289, 0, 0, 0) := by decide +kernel
theorem k191_289 : icode MCl 191 289 = some (.aload_n 0, 290, 0, 0, 0) := by decide +kernel
theorem k191_290 : icode MCl 191 290 = some (.iload_n 3, 291, 0, 0, 0) := by decide +kernel
theorem k191_291 : icode MCl 191 291 = some (.iconst 1, 292, 0, 0, 1) := by decide +kernel
theorem k191_292 : icode MCl 191 292 = some (.iadd, 293, 0, 0, 0) := by decide +kernel
theorem k191_293 : icode MCl 191 293 = some (.iaload, 294, 0, 0, 0) := by decide +kernel
theorem k191_294 : icode MCl 191 294 = some (.aload_n 0, 295, 0, 0, 0) := by decide +kernel
theorem k191_295 : icode MCl 191 295 = some (.iload_n 3, 296, 0, 0, 0) := by decide +kernel
theorem k191_296 : icode MCl 191 296 = some (.iconst 2, 297, 0, 0, 2) := by decide +kernel
theorem k191_297 : icode MCl 191 297 = some (.iadd, 298, 0, 0, 0) := by decide +kernel
theorem k191_298 : icode MCl 191 298 = some (.iaload, 299, 0, 0, 0) := by decide +kernel
theorem k191_299 : icode MCl 191 299 = some (.invokevirtual 40, 302, 93, 483, 0) := by decide +kernel
theorem k191_302 : icode MCl 191 302 = some (.aload_n 2, 303, 0, 0, 0) := by decide +kernel
theorem k191_303 : icode MCl 191 303 = some (.aload_n 0, 304, 0, 0, 0) := by decide +kernel
theorem k191_304 : icode MCl 191 304 = some (.iload_n 3, 305, 0, 0, 0) := by decide +kernel
theorem k191_305 : icode MCl 191 305 = some (.iconst 1, 306, 0, 0, 1) := by decide +kernel
theorem k191_306 : icode MCl 191 306 = some (.iadd, 307, 0, 0, 0) := by decide +kernel
theorem k191_307 : icode MCl 191 307 = some (.iaload, 308, 0, 0, 0) := by decide +kernel
theorem k191_308 : icode MCl 191 308 = some (.aload_n 0, 309, 0, 0, 0) := by decide +kernel
theorem k191_309 : icode MCl 191 309 = some (.iload_n 3, 310, 0, 0, 0) := by decide +kernel
theorem k191_310 : icode MCl 191 310 = some (.iconst 2, 311, 0, 0, 2) := by decide +kernel
theorem k191_311 : icode MCl 191 311 = some (.iadd, 312, 0, 0, 0) := by decide +kernel
theorem k191_312 : icode MCl 191 312 = some (.iaload, 313, 0, 0, 0) := by decide +kernel
theorem k191_313 : icode MCl 191 313 = some (.invokevirtual 43, 316, 98, 921, 0) := by decide +kernel
theorem k191_316 : icode MCl 191 316 = some (.if_icmp .eq 588, 319, 904, 0, 0) := by decide +kernel
theorem k191_319 : icode MCl 191 319 = some (.iconst 0, 320, 0, 0, 0) := by decide +kernel
theorem k191_320 : icode MCl 191 320 = some (.ireturn, 321, 0, 0, 0) := by decide +kernel
theorem k191_321 : icode MCl 191 321 = some (.aload_n 1, 322, 0, 0, 0) := by decide +kernel
theorem k191_322 : icode MCl 191 322 = some (.aload_n 0, 323, 0, 0, 0) := by decide +kernel
theorem k191_323 : icode MCl 191 323 = some (.iload_n 3, 324, 0, 0, 0) := by decide +kernel
theorem k191_324 : icode MCl 191 324 = some (.iconst 1, 325, 0, 0, 1) := by decide +kernel
theorem k191_325 : icode MCl 191 325 = some (.iadd, 326, 0, 0, 0) := by decide +kernel
theorem k191_326 : icode MCl 191 326 = some (.iaload, 327, 0, 0, 0) := by decide +kernel
theorem k191_327 : icode MCl 191 327 = some (.invokevirtual 44, 330, 106, 511, 0) := by decide +kernel
theorem k191_330 : icode MCl 191 330 = some (.aload_n 2, 331, 0, 0, 0) := by decide +kernel
theorem k191_331 : icode MCl 191 331 = some (.aload_n 0, 332, 0, 0, 0) := by decide +kernel
theorem k191_332 : icode MCl 191 332 = some (.iload_n 3, 333, 0, 0, 0) := by decide +kernel
theorem k191_333 : icode MCl 191 333 = some (.iconst 1, 334, 0, 0, 1) := by decide +kernel
theorem k191_334 : icode MCl 191 334 = some (.iadd, 335, 0, 0, 0) := by decide +kernel
theorem k191_335 : icode MCl 191 335 = some (.iaload, 336, 0, 0, 0) := by decide +kernel
theorem k191_336 : icode MCl 191 336 = some (.invokevirtual 47, 339, 112, 938, 0) := by decide +kernel
theorem k191_339 : icode MCl 191 339 = some (.if_icmp .eq 565, 342, 904, 0, 0) := by decide +kernel
theorem k191_342 : icode MCl 191 342 = some (.iconst 0, 343, 0, 0, 0) := by decide +kernel
theorem k191_343 : icode MCl 191 343 = some (.ireturn, 344, 0, 0, 0) := by decide +kernel
theorem k191_344 : icode MCl 191 344 = some (.aload_n 1, 345, 0, 0, 0) := by decide +kernel
theorem k191_345 : icode MCl 191 345 = some (.aload_n 0, 346, 0, 0, 0) := by decide +kernel
theorem k191_346 : icode MCl 191 346 = some (.iload_n 3, 347, 0, 0, 0) := by decide +kernel
theorem k191_347 : icode MCl 191 347 = some (.iconst 1, 348, 0, 0, 1) := by decide +kernel
theorem k191_348 : icode MCl 191 348 = some (.iadd, 349, 0, 0, 0) := by decide +kernel
theorem k191_349 : icode MCl 191 349 = some (.iaload, 350, 0, 0, 0) := by decide +kernel
theorem k191_350 : icode MCl 191 350 = some (.invokevirtual 48, 353, 113, 549, 0) := by decide +kernel
theorem k191_353 : icode MCl 191 353 = some (.aload_n 2, 354, 0, 0, 0) := by decide +kernel
theorem k191_354 : icode MCl 191 354 = some (.aload_n 0, 355, 0, 0, 0) := by decide +kernel
theorem k191_355 : icode MCl 191 355 = some (.iload_n 3, 356, 0, 0, 0) := by decide +kernel
theorem k191_356 : icode MCl 191 356 = some (.iconst 1, 357, 0, 0, 1) := by decide +kernel
theorem k191_357 : icode MCl 191 357 = some (.iadd, 358, 0, 0, 0) := by decide +kernel
theorem k191_358 : icode MCl 191 358 = some (.iaload, 359, 0, 0, 0) := by decide +kernel
theorem k191_359 : icode MCl 191 359 = some (.invokevirtual 51, 362, 114, 960, 0) := by decide +kernel
theorem k191_362 : icode MCl 191 362 = some (.if_icmp .eq 542, 365, 904, 0, 0) := by decide +kernel
theorem k191_365 : icode MCl 191 365 = some (.iconst 0, 366, 0, 0, 0) := by decide +kernel
theorem k191_366 : icode MCl 191 366 = some (.ireturn, 367, 0, 0, 0) := by decide +kernel
theorem k191_367 : icode MCl 191 367 = some (.aload_n 1, 368, 0, 0, 0) := by decide +kernel
theorem k191_368 : icode MCl 191 368 = some (.aload_n 0, 369, 0, 0, 0) := by decide +kernel
theorem k191_369 : icode MCl 191 369 = some (.iload_n 3, 370, 0, 0, 0) := by decide +kernel
theorem k191_370 : icode MCl 191 370 = some (.iconst 1, 371, 0, 0, 1) := by decide +kernel
theorem k191_371 : icode MCl 191 371 = some (.iadd, 372, 0, 0, 0) := by decide +kernel
theorem k191_372 : icode MCl 191 372 = some (.iaload, 373, 0, 0, 0) := by decide +kernel
theorem k191_373 : icode MCl 191 373 = some (.aload_n 0, 374, 0, 0, 0) := by decide +kernel
theorem k191_374 : icode MCl 191 374 = some (.iload_n 3, 375, 0, 0, 0) := by decide +kernel
theorem k191_375 : icode MCl 191 375 = some (.iconst 2, 376, 0, 0, 2) := by decide +kernel
theorem k191_376 : icode MCl 191 376 = some (.iadd, 377, 0, 0, 0) := by decide +kernel
theorem k191_377 : icode MCl 191 377 = some (.iaload, 378, 0, 0, 0) := by decide +kernel
theorem k191_378 : icode MCl 191 378 = some (.invokevirtual 52, 381, 117, 554, 0) := by decide +kernel
theorem k191_381 : icode MCl 191 381 = some (.aload_n 2, 382, 0, 0, 0) := by decide +kernel
theorem k191_382 : icode MCl 191 382 = some (.aload_n 0, 383, 0, 0, 0) := by decide +kernel
theorem k191_383 : icode MCl 191 383 = some (.iload_n 3, 384, 0, 0, 0) := by decide +kernel
theorem k191_384 : icode MCl 191 384 = some (.iconst 1, 385, 0, 0, 1) := by decide +kernel
theorem k191_385 : icode MCl 191 385 = some (.iadd, 386, 0, 0, 0) := by decide +kernel
theorem k191_386 : icode MCl 191 386 = some (.iaload, 387, 0, 0, 0) := by decide +kernel
theorem k191_387 : icode MCl 191 387 = some (.aload_n 0, 388, 0, 0, 0) := by decide +kernel
theorem k191_388 : icode MCl 191 388 = some (.iload_n 3, 389, 0, 0, 0) := by decide +kernel
theorem k191_389 : icode MCl 191 389 = some (.iconst 2, 390, 0, 0, 2) := by decide +kernel
theorem k191_390 : icode MCl 191 390 = some (.iadd, 391, 0, 0, 0) := by decide +kernel
theorem k191_391 : icode MCl 191 391 = some (.iaload, 392, 0, 0, 0) := by decide +kernel
theorem k191_392 : icode MCl 191 392 = some (.invokevirtual 55, 395, 118, 964, 0) := by decide +kernel
theorem k191_395 : icode MCl 191 395 = some (.if_icmp .eq 509, 398, 904, 0, 0) := by decide +kernel
theorem k191_398 : icode MCl 191 398 = some (.iconst 0, 399, 0, 0, 0) := by decide +kernel
theorem k191_399 : icode MCl 191 399 = some (.ireturn, 400, 0, 0, 0) := by decide +kernel
theorem k191_400 : icode MCl 191 400 = some (.aload_n 1, 401, 0, 0, 0) := by decide +kernel
theorem k191_401 : icode MCl 191 401 = some (.aload_n 0, 402, 0, 0, 0) := by decide +kernel
theorem k191_402 : icode MCl 191 402 = some (.iload_n 3, 403, 0, 0, 0) := by decide +kernel
theorem k191_403 : icode MCl 191 403 = some (.iconst 1, 404, 0, 0, 1) := by decide +kernel
theorem k191_404 : icode MCl 191 404 = some (.iadd, 405, 0, 0, 0) := by decide +kernel
theorem k191_405 : icode MCl 191 405 = some (.iaload, 406, 0, 0, 0) := by decide +kernel
theorem k191_406 : icode MCl 191 406 = some (.aload_n 0, 407, 0, 0, 0) := by decide +kernel
theorem k191_407 : icode MCl 191 407 = some (.iload_n 3, 408, 0, 0, 0) := by decide +kernel
theorem k191_408 : icode MCl 191 408 = some (.iconst 2, 409, 0, 0, 2) := by decide +kernel
theorem k191_409 : icode MCl 191 409 = some (.iadd, 410, 0, 0, 0) := by decide +kernel
theorem k191_410 : icode MCl 191 410 = some (.iaload, 411, 0, 0, 0) := by decide +kernel
theorem k191_411 : icode MCl 191 411 = some (.invokevirtual 56, 414, 119, 568, 0) := by decide +kernel
theorem k191_414 : icode MCl 191 414 = some (.aload_n 2, 415, 0, 0, 0) := by decide +kernel
theorem k191_415 : icode MCl 191 415 = some (.aload_n 0, 416, 0, 0, 0) := by decide +kernel
theorem k191_416 : icode MCl 191 416 = some (.iload_n 3, 417, 0, 0, 0) := by decide +kernel
theorem k191_417 : icode MCl 191 417 = some (.iconst 1, 418, 0, 0, 1) := by decide +kernel
theorem k191_418 : icode MCl 191 418 = some (.iadd, 419, 0, 0, 0) := by decide +kernel
theorem k191_419 : icode MCl 191 419 = some (.iaload, 420, 0, 0, 0) := by decide +kernel
theorem k191_420 : icode MCl 191 420 = some (.aload_n 0, 421, 0, 0, 0) := by decide +kernel
theorem k191_421 : icode MCl 191 421 = some (.iload_n 3, 422, 0, 0, 0) := by decide +kernel
theorem k191_422 : icode MCl 191 422 = some (.iconst 2, 423, 0, 0, 2) := by decide +kernel
theorem k191_423 : icode MCl 191 423 = some (.iadd, 424, 0, 0, 0) := by decide +kernel
theorem k191_424 : icode MCl 191 424 = some (.iaload, 425, 0, 0, 0) := by decide +kernel
theorem k191_425 : icode MCl 191 425 = some (.invokevirtual 59, 428, 120, 968, 0) := by decide +kernel
theorem k191_428 : icode MCl 191 428 = some (.if_icmp .eq 476, 431, 904, 0, 0) := by decide +kernel
theorem k191_431 : icode MCl 191 431 = some (.iconst 0, 432, 0, 0, 0) := by decide +kernel
theorem k191_432 : icode MCl 191 432 = some (.ireturn, 433, 0, 0, 0) := by decide +kernel
theorem k191_433 : icode MCl 191 433 = some (.aload_n 1, 434, 0, 0, 0) := by decide +kernel
theorem k191_434 : icode MCl 191 434 = some (.invokevirtual 60, 437, 123, 572, 0) := by decide +kernel
theorem k191_437 : icode MCl 191 437 = some (.aload_n 2, 438, 0, 0, 0) := by decide +kernel
theorem k191_438 : icode MCl 191 438 = some (.invokevirtual 63, 441, 124, 972, 0) := by decide +kernel
theorem k191_441 : icode MCl 191 441 = some (.if_icmp .eq 463, 444, 904, 0, 0) := by decide +kernel
theorem k191_444 : icode MCl 191 444 = some (.iconst 0, 445, 0, 0, 0) := by decide +kernel
theorem k191_445 : icode MCl 191 445 = some (.ireturn, 446, 0, 0, 0) := by decide +kernel
theorem k191_446 : icode MCl 191 446 = some (.aload_n 1, 447, 0, 0, 0) := by decide +kernel
theorem k191_447 : icode MCl 191 447 = some (.aload_n 0, 448, 0, 0, 0) := by decide +kernel
theorem k191_448 : icode MCl 191 448 = some (.iload_n 3, 449, 0, 0, 0) := by decide +kernel
theorem k191_449 : icode MCl 191 449 = some (.iconst 1, 450, 0, 0, 1) := by decide +kernel
theorem k191_450 : icode MCl 191 450 = some (.iadd, 451, 0, 0, 0) := by decide +kernel
theorem k191_451 : icode MCl 191 451 = some (.iaload, 452, 0, 0, 0) := by decide +kernel
theorem k191_452 : icode MCl 191 452 = some (.aload_n 0, 453, 0, 0, 0) := by decide +kernel
theorem k191_453 : icode MCl 191 453 = some (.iload_n 3, 454, 0, 0, 0) := by decide +kernel
theorem k191_454 : icode MCl 191 454 = some (.iconst 2, 455, 0, 0, 2) := by decide +kernel
theorem k191_455 : icode MCl 191 455 = some (.iadd, 456, 0, 0, 0) := by decide +kernel
theorem k191_456 : icode MCl 191 456 = some (.iaload, 457, 0, 0, 0) := by decide +kernel
theorem k191_457 : icode MCl 191 457 = some (.aload_n 0, 458, 0, 0, 0) := by decide +kernel
theorem k191_458 : icode MCl 191 458 = some (.iload_n 3, 459, 0, 0, 0) := by decide +kernel
theorem k191_459 : icode MCl 191 459 = some (.iconst 3, 460, 0, 0, 3) := by decide +kernel
theorem k191_460 : icode MCl 191 460 = some (.iadd, 461, 0, 0, 0) := by decide +kernel
theorem k191_461 : icode MCl 191 461 = some (.iaload, 462, 0, 0, 0) := by decide +kernel
theorem k191_462 : icode MCl 191 462 = some (.invokevirtual 64, 465, 129, 584, 0) := by decide +kernel
theorem k191_465 : icode MCl 191 465 = some (.aload_n 2, 466, 0, 0, 0) := by decide +kernel
theorem k191_466 : icode MCl 191 466 = some (.aload_n 0, 467, 0, 0, 0) := by decide +kernel
theorem k191_467 : icode MCl 191 467 = some (.iload_n 3, 468, 0, 0, 0) := by decide +kernel
theorem k191_468 : icode MCl 191 468 = some (.iconst 1, 469, 0, 0, 1) := by decide +kernel
theorem k191_469 : icode MCl 191 469 = some (.iadd, 470, 0, 0, 0) := by decide +kernel
theorem k191_470 : icode MCl 191 470 = some (.iaload, 471, 0, 0, 0) := by decide +kernel
theorem k191_471 : icode MCl 191 471 = some (.aload_n 0, 472, 0, 0, 0) := by decide +kernel
theorem k191_472 : icode MCl 191 472 = some (.iload_n 3, 473, 0, 0, 0) := by decide +kernel
theorem k191_473 : icode MCl 191 473 = some (.iconst 2, 474, 0, 0, 2) := by decide +kernel
theorem k191_474 : icode MCl 191 474 = some (.iadd, 475, 0, 0, 0) := by decide +kernel
theorem k191_475 : icode MCl 191 475 = some (.iaload, 476, 0, 0, 0) := by decide +kernel
theorem k191_476 : icode MCl 191 476 = some (.aload_n 0, 477, 0, 0, 0) := by decide +kernel
theorem k191_477 : icode MCl 191 477 = some (.iload_n 3, 478, 0, 0, 0) := by decide +kernel
theorem k191_478 : icode MCl 191 478 = some (.iconst 3, 479, 0, 0, 3) := by decide +kernel
theorem k191_479 : icode MCl 191 479 = some (.iadd, 480, 0, 0, 0) := by decide +kernel
theorem k191_480 : icode MCl 191 480 = some (.iaload, 481, 0, 0, 0) := by decide +kernel
theorem k191_481 : icode MCl 191 481 = some (.invokevirtual 68, 484, 132, 976, 0) := by decide +kernel
theorem k191_484 : icode MCl 191 484 = some (.if_icmp .eq 420, 487, 904, 0, 0) := by decide +kernel
theorem k191_487 : icode MCl 191 487 = some (.iconst 0, 488, 0, 0, 0) := by decide +kernel
theorem k191_488 : icode MCl 191 488 = some (.ireturn, 489, 0, 0, 0) := by decide +kernel
theorem k191_489 : icode MCl 191 489 = some (.aload_n 1, 490, 0, 0, 0) := by decide +kernel
theorem k191_490 : icode MCl 191 490 = some (.aload_n 0, 491, 0, 0, 0) := by decide +kernel
theorem k191_491 : icode MCl 191 491 = some (.iload_n 3, 492, 0, 0, 0) := by decide +kernel
theorem k191_492 : icode MCl 191 492 = some (.iconst 1, 493, 0, 0, 1) := by decide +kernel
theorem k191_493 : icode MCl 191 493 = some (.iadd, 494, 0, 0, 0) := by decide +kernel
theorem k191_494 : icode MCl 191 494 = some (.iaload, 495, 0, 0, 0) := by decide +kernel
theorem k191_495 : icode MCl 191 495 = some (.aload_n 0, 496, 0, 0, 0) := by decide +kernel
theorem k191_496 : icode MCl 191 496 = some (.iload_n 3, 497, 0, 0, 0) := by decide +kernel
theorem k191_497 : icode MCl 191 497 = some (.iconst 2, 498, 0, 0, 2) := by decide +kernel
theorem k191_498 : icode MCl 191 498 = some (.iadd, 499, 0, 0, 0) := by decide +kernel
theorem k191_499 : icode MCl 191 499 = some (.iaload, 500, 0, 0, 0) := by decide +kernel
theorem k191_500 : icode MCl 191 500 = some (.invokevirtual 69, 503, 136, 607, 0) := by decide +kernel
theorem k191_503 : icode MCl 191 503 = some (.aload_n 2, 504, 0, 0, 0) := by decide +kernel
theorem k191_504 : icode MCl 191 504 = some (.aload_n 0, 505, 0, 0, 0) := by decide +kernel
theorem k191_505 : icode MCl 191 505 = some (.iload_n 3, 506, 0, 0, 0) := by decide +kernel
theorem k191_506 : icode MCl 191 506 = some (.iconst 1, 507, 0, 0, 1) := by decide +kernel
theorem k191_507 : icode MCl 191 507 = some (.iadd, 508, 0, 0, 0) := by decide +kernel
theorem k191_508 : icode MCl 191 508 = some (.iaload, 509, 0, 0, 0) := by decide +kernel
theorem k191_509 : icode MCl 191 509 = some (.aload_n 0, 510, 0, 0, 0) := by decide +kernel
theorem k191_510 : icode MCl 191 510 = some (.iload_n 3, 511, 0, 0, 0) := by decide +kernel
theorem k191_511 : icode MCl 191 511 = some (.iconst 2, 512, 0, 0, 2) := by decide +kernel
theorem k191_512 : icode MCl 191 512 = some (.iadd, 513, 0, 0, 0) := by decide +kernel
theorem k191_513 : icode MCl 191 513 = some (.iaload, 514, 0, 0, 0) := by decide +kernel
theorem k191_514 : icode MCl 191 514 = some (.invokevirtual 72, 517, 138, 988, 0) := by decide +kernel
theorem k191_517 : icode MCl 191 517 = some (.if_icmp .eq 387, 520, 904, 0, 0) := by decide +kernel
theorem k191_520 : icode MCl 191 520 = some (.iconst 0, 521, 0, 0, 0) := by decide +kernel
theorem k191_521 : icode MCl 191 521 = some (.ireturn, 522, 0, 0, 0) := by decide +kernel
theorem k191_522 : icode MCl 191 522 = some (.aload_n 1, 523, 0, 0, 0) := by decide +kernel
theorem k191_523 : icode MCl 191 523 = some (.aload_n 0, 524, 0, 0, 0) := by decide +kernel
theorem k191_524 : icode MCl 191 524 = some (.iload_n 3, 525, 0, 0, 0) := by decide +kernel
theorem k191_525 : icode MCl 191 525 = some (.iconst 1, 526, 0, 0, 1) := by decide +kernel
theorem k191_526 : icode MCl 191 526 = some (.iadd, 527, 0, 0, 0) := by decide +kernel
theorem k191_527 : icode MCl 191 527 = some (.iaload, 528, 0, 0, 0) := by decide +kernel
theorem k191_528 : icode MCl 191 528 = some (.aload_n 0, 529, 0, 0, 0) := by decide +kernel
theorem k191_529 : icode MCl 191 529 = some (.iload_n 3, 530, 0, 0, 0) := by decide +kernel
theorem k191_530 : icode MCl 191 530 = some (.iconst 2, 531, 0, 0, 2) := by decide +kernel
theorem k191_531 : icode MCl 191 531 = some (.iadd, 532, 0, 0, 0) := by decide +kernel
theorem k191_532 : icode MCl 191 532 = some (.iaload, 533, 0, 0, 0) := by decide +kernel
theorem k191_533 : icode MCl 191 533 = some (.invokevirtual 73, 536, 139, 625, 0) := by decide +kernel
theorem k191_536 : icode MCl 191 536 = some (.aload_n 2, 537, 0, 0, 0) := by decide +kernel
theorem k191_537 : icode MCl 191 537 = some (.aload_n 0, 538, 0, 0, 0) := by decide +kernel
theorem k191_538 : icode MCl 191 538 = some (.iload_n 3, 539, 0, 0, 0) := by decide +kernel
theorem k191_539 : icode MCl 191 539 = some (.iconst 1, 540, 0, 0, 1) := by decide +kernel
theorem k191_540 : icode MCl 191 540 = some (.iadd, 541, 0, 0, 0) := by decide +kernel
theorem k191_541 : icode MCl 191 541 = some (.iaload, 542, 0, 0, 0) := by decide +kernel
theorem k191_542 : icode MCl 191 542 = some (.aload_n 0, 543, 0, 0, 0) := by decide +kernel
theorem k191_543 : icode MCl 191 543 = some (.iload_n 3, 544, 0, 0, 0) := by decide +kernel
theorem k191_544 : icode MCl 191 544 = some (.iconst 2, 545, 0, 0, 2) := by decide +kernel
theorem k191_545 : icode MCl 191 545 = some (.iadd, 546, 0, 0, 0) := by decide +kernel
theorem k191_546 : icode MCl 191 546 = some (.iaload, 547, 0, 0, 0) := by decide +kernel
theorem k191_547 : icode MCl 191 547 = some (.invokevirtual 76, 550, 140, 996, 0) := by decide +kernel
theorem k191_550 : icode MCl 191 550 = some (.if_icmp .eq 354, 553, 904, 0, 0) := by decide +kernel
theorem k191_553 : icode MCl 191 553 = some (.iconst 0, 554, 0, 0, 0) := by decide +kernel
theorem k191_554 : icode MCl 191 554 = some (.ireturn, 555, 0, 0, 0) := by decide +kernel
theorem k191_555 : icode MCl 191 555 = some (.aload_n 1, 556, 0, 0, 0) := by decide +kernel
theorem k191_556 : icode MCl 191 556 = some (.aload_n 0, 557, 0, 0, 0) := by decide +kernel
theorem k191_557 : icode MCl 191 557 = some (.iload_n 3, 558, 0, 0, 0) := by decide +kernel
theorem k191_558 : icode MCl 191 558 = some (.iconst 1, 559, 0, 0, 1) := by decide +kernel
theorem k191_559 : icode MCl 191 559 = some (.iadd, 560, 0, 0, 0) := by decide +kernel
theorem k191_560 : icode MCl 191 560 = some (.iaload, 561, 0, 0, 0) := by decide +kernel
theorem k191_561 : icode MCl 191 561 = some (.aload_n 0, 562, 0, 0, 0) := by decide +kernel
theorem k191_562 : icode MCl 191 562 = some (.iload_n 3, 563, 0, 0, 0) := by decide +kernel
theorem k191_563 : icode MCl 191 563 = some (.iconst 2, 564, 0, 0, 2) := by decide +kernel
theorem k191_564 : icode MCl 191 564 = some (.iadd, 565, 0, 0, 0) := by decide +kernel
theorem k191_565 : icode MCl 191 565 = some (.iaload, 566, 0, 0, 0) := by decide +kernel
theorem k191_566 : icode MCl 191 566 = some (.invokevirtual 77, 569, 141, 629, 0) := by decide +kernel
theorem k191_569 : icode MCl 191 569 = some (.aload_n 2, 570, 0, 0, 0) := by decide +kernel
theorem k191_570 : icode MCl 191 570 = some (.aload_n 0, 571, 0, 0, 0) := by decide +kernel
theorem k191_571 : icode MCl 191 571 = some (.iload_n 3, 572, 0, 0, 0) := by decide +kernel
theorem k191_572 : icode MCl 191 572 = some (.iconst 1, 573, 0, 0, 1) := by decide +kernel
theorem k191_573 : icode MCl 191 573 = some (.iadd, 574, 0, 0, 0) := by decide +kernel
theorem k191_574 : icode MCl 191 574 = some (.iaload, 575, 0, 0, 0) := by decide +kernel
theorem k191_575 : icode MCl 191 575 = some (.aload_n 0, 576, 0, 0, 0) := by decide +kernel
theorem k191_576 : icode MCl 191 576 = some (.iload_n 3, 577, 0, 0, 0) := by decide +kernel
theorem k191_577 : icode MCl 191 577 = some (.iconst 2, 578, 0, 0, 2) := by decide +kernel
theorem k191_578 : icode MCl 191 578 = some (.iadd, 579, 0, 0, 0) := by decide +kernel
theorem k191_579 : icode MCl 191 579 = some (.iaload, 580, 0, 0, 0) := by decide +kernel
theorem k191_580 : icode MCl 191 580 = some (.invokevirtual 80, 583, 142, 1000, 0) := by decide +kernel
theorem k191_583 : icode MCl 191 583 = some (.if_icmp .eq 321, 586, 904, 0, 0) := by decide +kernel
theorem k191_586 : icode MCl 191 586 = some (.iconst 0, 587, 0, 0, 0) := by decide +kernel
theorem k191_587 : icode MCl 191 587 = some (.ireturn, 588, 0, 0, 0) := by decide +kernel
theorem k191_588 : icode MCl 191 588 = some (.aload_n 1, 589, 0, 0, 0) := by decide +kernel
theorem k191_589 : icode MCl 191 589 = some (.aload_n 0, 590, 0, 0, 0) := by decide +kernel
theorem k191_590 : icode MCl 191 590 = some (.iload_n 3, 591, 0, 0, 0) := by decide +kernel
theorem k191_591 : icode MCl 191 591 = some (.iconst 1, 592, 0, 0, 1) := by decide +kernel
theorem k191_592 : icode MCl 191 592 = some (.iadd, 593, 0, 0, 0) := by decide +kernel
theorem k191_593 : icode MCl 191 593 = some (.iaload, 594, 0, 0, 0) := by decide +kernel
theorem k191_594 : icode MCl 191 594 = some (.invokevirtual 81, 597, 144, 633, 0) := by decide +kernel
theorem k191_597 : icode MCl 191 597 = some (.aload_n 2, 598, 0, 0, 0) := by decide +kernel
theorem k191_598 : icode MCl 191 598 = some (.aload_n 0, 599, 0, 0, 0) := by decide +kernel
theorem k191_599 : icode MCl 191 599 = some (.iload_n 3, 600, 0, 0, 0) := by decide +kernel
theorem k191_600 : icode MCl 191 600 = some (.iconst 1, 601, 0, 0, 1) := by decide +kernel
theorem k191_601 : icode MCl 191 601 = some (.iadd, 602, 0, 0, 0) := by decide +kernel
theorem k191_602 : icode MCl 191 602 = some (.iaload, 603, 0, 0, 0) := by decide +kernel
theorem k191_603 : icode MCl 191 603 = some (.invokevirtual 84, 606, 147, 1004, 0) := by decide +kernel
theorem k191_606 : icode MCl 191 606 = some (.if_icmp .eq 298, 609, 904, 0, 0) := by decide +kernel
theorem k191_609 : icode MCl 191 609 = some (.iconst 0, 610, 0, 0, 0) := by decide +kernel
theorem k191_610 : icode MCl 191 610 = some (.ireturn, 611, 0, 0, 0) := by decide +kernel
theorem k191_611 : icode MCl 191 611 = some (.aload_n 1, 612, 0, 0, 0) := by decide +kernel
theorem k191_612 : icode MCl 191 612 = some (.aload_n 0, 613, 0, 0, 0) := by decide +kernel
theorem k191_613 : icode MCl 191 613 = some (.iload_n 3, 614, 0, 0, 0) := by decide +kernel
theorem k191_614 : icode MCl 191 614 = some (.iconst 1, 615, 0, 0, 1) := by decide +kernel
theorem k191_615 : icode MCl 191 615 = some (.iadd, 616, 0, 0, 0) := by decide +kernel
theorem k191_616 : icode MCl 191 616 = some (.iaload, 617, 0, 0, 0) := by decide +kernel
theorem k191_617 : icode MCl 191 617 = some (.aload_n 0, 618, 0, 0, 0) := by decide +kernel
theorem k191_618 : icode MCl 191 618 = some (.iload_n 3, 619, 0, 0, 0) := by decide +kernel
theorem k191_619 : icode MCl 191 619 = some (.iconst 2, 620, 0, 0, 2) := by decide +kernel
theorem k191_620 : icode MCl 191 620 = some (.iadd, 621, 0, 0, 0) := by decide +kernel
theorem k191_621 : icode MCl 191 621 = some (.iaload, 622, 0, 0, 0) := by decide +kernel
theorem k191_622 : icode MCl 191 622 = some (.invokevirtual 85, 625, 149, 643, 0) := by decide +kernel
theorem k191_625 : icode MCl 191 625 = some (.aload_n 2, 626, 0, 0, 0) := by decide +kernel
theorem k191_626 : icode MCl 191 626 = some (.aload_n 0, 627, 0, 0, 0) := by decide +kernel
theorem k191_627 : icode MCl 191 627 = some (.iload_n 3, 628, 0, 0, 0) := by decide +kernel
theorem k191_628 : icode MCl 191 628 = some (.iconst 1, 629, 0, 0, 1) := by decide +kernel
theorem k191_629 : icode MCl 191 629 = some (.iadd, 630, 0, 0, 0) := by decide +kernel
theorem k191_630 : icode MCl 191 630 = some (.iaload, 631, 0, 0, 0) := by decide +kernel
theorem k191_631 : icode MCl 191 631 = some (.aload_n 0, 632, 0, 0, 0) := by decide +kernel
theorem k191_632 : icode MCl 191 632 = some (.iload_n 3, 633, 0, 0, 0) := by decide +kernel
theorem k191_633 : icode MCl 191 633 = some (.iconst 2, 634, 0, 0, 2) := by decide +kernel
theorem k191_634 : icode MCl 191 634 = some (.iadd, 635, 0, 0, 0) := by decide +kernel
theorem k191_635 : icode MCl 191 635 = some (.iaload, 636, 0, 0, 0) := by decide +kernel
theorem k191_636 : icode MCl 191 636 = some (.invokevirtual 88, 639, 151, 1015, 0) := by decide +kernel
theorem k191_639 : icode MCl 191 639 = some (.if_icmp .eq 265, 642, 904, 0, 0) := by decide +kernel
theorem k191_642 : icode MCl 191 642 = some (.iconst 0, 643, 0, 0, 0) := by decide +kernel
theorem k191_643 : icode MCl 191 643 = some (.ireturn, 644, 0, 0, 0) := by decide +kernel
theorem k191_644 : icode MCl 191 644 = some (.aload_n 1, 645, 0, 0, 0) := by decide +kernel
theorem k191_645 : icode MCl 191 645 = some (.aload_n 0, 646, 0, 0, 0) := by decide +kernel
theorem k191_646 : icode MCl 191 646 = some (.iload_n 3, 647, 0, 0, 0) := by decide +kernel
theorem k191_647 : icode MCl 191 647 = some (.iconst 1, 648, 0, 0, 1) := by decide +kernel
theorem k191_648 : icode MCl 191 648 = some (.iadd, 649, 0, 0, 0) := by decide +kernel
theorem k191_649 : icode MCl 191 649 = some (.iaload, 650, 0, 0, 0) := by decide +kernel
theorem k191_650 : icode MCl 191 650 = some (.invokevirtual 89, 653, 153, 651, 0) := by decide +kernel
theorem k191_653 : icode MCl 191 653 = some (.aload_n 2, 654, 0, 0, 0) := by decide +kernel
theorem k191_654 : icode MCl 191 654 = some (.aload_n 0, 655, 0, 0, 0) := by decide +kernel
theorem k191_655 : icode MCl 191 655 = some (.iload_n 3, 656, 0, 0, 0) := by decide +kernel
theorem k191_656 : icode MCl 191 656 = some (.iconst 1, 657, 0, 0, 1) := by decide +kernel
theorem k191_657 : icode MCl 191 657 = some (.iadd, 658, 0, 0, 0) := by decide +kernel
theorem k191_658 : icode MCl 191 658 = some (.iaload, 659, 0, 0, 0) := by decide +kernel
theorem k191_659 : icode MCl 191 659 = some (.invokevirtual 92, 662, 155, 1022, 0) := by decide +kernel
theorem k191_662 : icode MCl 191 662 = some (.if_icmp .eq 242, 665, 904, 0, 0) := by decide +kernel
theorem k191_665 : icode MCl 191 665 = some (.iconst 0, 666, 0, 0, 0) := by decide +kernel
theorem k191_666 : icode MCl 191 666 = some (.ireturn, 667, 0, 0, 0) := by decide +kernel
theorem k191_667 : icode MCl 191 667 = some (.aload_n 1, 668, 0, 0, 0) := by decide +kernel
theorem k191_668 : icode MCl 191 668 = some (.aload_n 0, 669, 0, 0, 0) := by decide +kernel
theorem k191_669 : icode MCl 191 669 = some (.iload_n 3, 670, 0, 0, 0) := by decide +kernel
theorem k191_670 : icode MCl 191 670 = some (.iconst 1, 671, 0, 0, 1) := by decide +kernel
theorem k191_671 : icode MCl 191 671 = some (.iadd, 672, 0, 0, 0) := by decide +kernel
theorem k191_672 : icode MCl 191 672 = some (.iaload, 673, 0, 0, 0) := by decide +kernel
theorem k191_673 : icode MCl 191 673 = some (.aload_n 0, 674, 0, 0, 0) := by decide +kernel
theorem k191_674 : icode MCl 191 674 = some (.iload_n 3, 675, 0, 0, 0) := by decide +kernel
theorem k191_675 : icode MCl 191 675 = some (.iconst 2, 676, 0, 0, 2) := by decide +kernel
theorem k191_676 : icode MCl 191 676 = some (.iadd, 677, 0, 0, 0) := by decide +kernel
theorem k191_677 : icode MCl 191 677 = some (.iaload, 678, 0, 0, 0) := by decide +kernel
theorem k191_678 : icode MCl 191 678 = some (.aload_n 0, 679, 0, 0, 0) := by decide +kernel
theorem k191_679 : icode MCl 191 679 = some (.iload_n 3, 680, 0, 0, 0) := by decide +kernel
theorem k191_680 : icode MCl 191 680 = some (.iconst 3, 681, 0, 0, 3) := by decide +kernel
theorem k191_681 : icode MCl 191 681 = some (.iadd, 682, 0, 0, 0) := by decide +kernel
theorem k191_682 : icode MCl 191 682 = some (.iaload, 683, 0, 0, 0) := by decide +kernel
theorem k191_683 : icode MCl 191 683 = some (.invokevirtual 93, 686, 158, 659, 0) := by decide +kernel
theorem k191_686 : icode MCl 191 686 = some (.aload_n 2, 687, 0, 0, 0) := by decide +kernel
theorem k191_687 : icode MCl 191 687 = some (.aload_n 0, 688, 0, 0, 0) := by decide +kernel
theorem k191_688 : icode MCl 191 688 = some (.iload_n 3, 689, 0, 0, 0) := by decide +kernel
theorem k191_689 : icode MCl 191 689 = some (.iconst 1, 690, 0, 0, 1) := by decide +kernel
theorem k191_690 : icode MCl 191 690 = some (.iadd, 691, 0, 0, 0) := by decide +kernel
theorem k191_691 : icode MCl 191 691 = some (.iaload, 692, 0, 0, 0) := by decide +kernel
theorem k191_692 : icode MCl 191 692 = some (.aload_n 0, 693, 0, 0, 0) := by decide +kernel
theorem k191_693 : icode MCl 191 693 = some (.iload_n 3, 694, 0, 0, 0) := by decide +kernel
theorem k191_694 : icode MCl 191 694 = some (.iconst 2, 695, 0, 0, 2) := by decide +kernel
theorem k191_695 : icode MCl 191 695 = some (.iadd, 696, 0, 0, 0) := by decide +kernel
theorem k191_696 : icode MCl 191 696 = some (.iaload, 697, 0, 0, 0) := by decide +kernel
theorem k191_697 : icode MCl 191 697 = some (.aload_n 0, 698, 0, 0, 0) := by decide +kernel
theorem k191_698 : icode MCl 191 698 = some (.iload_n 3, 699, 0, 0, 0) := by decide +kernel
theorem k191_699 : icode MCl 191 699 = some (.iconst 3, 700, 0, 0, 3) := by decide +kernel
theorem k191_700 : icode MCl 191 700 = some (.iadd, 701, 0, 0, 0) := by decide +kernel
theorem k191_701 : icode MCl 191 701 = some (.iaload, 702, 0, 0, 0) := by decide +kernel
theorem k191_702 : icode MCl 191 702 = some (.invokevirtual 96, 705, 159, 1030, 0) := by decide +kernel
theorem k191_705 : icode MCl 191 705 = some (.if_icmp .eq 199, 708, 904, 0, 0) := by decide +kernel
theorem k191_708 : icode MCl 191 708 = some (.iconst 0, 709, 0, 0, 0) := by decide +kernel
theorem k191_709 : icode MCl 191 709 = some (.ireturn, 710, 0, 0, 0) := by decide +kernel
theorem k191_710 : icode MCl 191 710 = some (.aload_n 1, 711, 0, 0, 0) := by decide +kernel
theorem k191_711 : icode MCl 191 711 = some (.invokevirtual 97, 714, 160, 672, 0) := by decide +kernel
theorem k191_714 : icode MCl 191 714 = some (.aload_n 2, 715, 0, 0, 0) := by decide +kernel
theorem k191_715 : icode MCl 191 715 = some (.invokevirtual 100, 718, 161, 1034, 0) := by decide +kernel
theorem k191_718 : icode MCl 191 718 = some (.if_icmp .eq 186, 721, 904, 0, 0) := by decide +kernel
theorem k191_721 : icode MCl 191 721 = some (.iconst 0, 722, 0, 0, 0) := by decide +kernel
theorem k191_722 : icode MCl 191 722 = some (.ireturn, 723, 0, 0, 0) := by decide +kernel
theorem k191_723 : icode MCl 191 723 = some (.aload_n 1, 724, 0, 0, 0) := by decide +kernel
theorem k191_724 : icode MCl 191 724 = some (.aload_n 0, 725, 0, 0, 0) := by decide +kernel
theorem k191_725 : icode MCl 191 725 = some (.iload_n 3, 726, 0, 0, 0) := by decide +kernel
theorem k191_726 : icode MCl 191 726 = some (.iconst 1, 727, 0, 0, 1) := by decide +kernel
theorem k191_727 : icode MCl 191 727 = some (.iadd, 728, 0, 0, 0) := by decide +kernel
theorem k191_728 : icode MCl 191 728 = some (.iaload, 729, 0, 0, 0) := by decide +kernel
theorem k191_729 : icode MCl 191 729 = some (.invokevirtual 101, 732, 164, 676, 0) := by decide +kernel
theorem k191_732 : icode MCl 191 732 = some (.aload_n 2, 733, 0, 0, 0) := by decide +kernel
theorem k191_733 : icode MCl 191 733 = some (.aload_n 0, 734, 0, 0, 0) := by decide +kernel
theorem k191_734 : icode MCl 191 734 = some (.iload_n 3, 735, 0, 0, 0) := by decide +kernel
theorem k191_735 : icode MCl 191 735 = some (.iconst 1, 736, 0, 0, 1) := by decide +kernel
theorem k191_736 : icode MCl 191 736 = some (.iadd, 737, 0, 0, 0) := by decide +kernel
theorem k191_737 : icode MCl 191 737 = some (.iaload, 738, 0, 0, 0) := by decide +kernel
theorem k191_738 : icode MCl 191 738 = some (.invokevirtual 104, 741, 166, 1038, 0) := by decide +kernel
theorem k191_741 : icode MCl 191 741 = some (.if_icmp .eq 163, 744, 904, 0, 0) := by decide +kernel
theorem k191_744 : icode MCl 191 744 = some (.iconst 0, 745, 0, 0, 0) := by decide +kernel
theorem k191_745 : icode MCl 191 745 = some (.ireturn, 746, 0, 0, 0) := by decide +kernel
theorem k191_746 : icode MCl 191 746 = some (.aload_n 1, 747, 0, 0, 0) := by decide +kernel
theorem k191_747 : icode MCl 191 747 = some (.invokevirtual 105, 750, 167, 690, 0) := by decide +kernel
theorem k191_750 : icode MCl 191 750 = some (.aload_n 2, 751, 0, 0, 0) := by decide +kernel
theorem k191_751 : icode MCl 191 751 = some (.invokevirtual 108, 754, 168, 1046, 0) := by decide +kernel
theorem k191_754 : icode MCl 191 754 = some (.if_icmp .eq 150, 757, 904, 0, 0) := by decide +kernel
theorem k191_757 : icode MCl 191 757 = some (.iconst 0, 758, 0, 0, 0) := by decide +kernel
theorem k191_758 : icode MCl 191 758 = some (.ireturn, 759, 0, 0, 0) := by decide +kernel
theorem k191_759 : icode MCl 191 759 = some (.aload_n 1, 760, 0, 0, 0) := by decide +kernel
theorem k191_760 : icode MCl 191 760 = some (.aload_n 0, 761, 0, 0, 0) := by decide +kernel
theorem k191_761 : icode MCl 191 761 = some (.iload_n 3, 762, 0, 0, 0) := by decide +kernel
theorem k191_762 : icode MCl 191 762 = some (.iconst 1, 763, 0, 0, 1) := by decide +kernel
theorem k191_763 : icode MCl 191 763 = some (.iadd, 764, 0, 0, 0) := by decide +kernel
theorem k191_764 : icode MCl 191 764 = some (.iaload, 765, 0, 0, 0) := by decide +kernel
theorem k191_765 : icode MCl 191 765 = some (.aload_n 0, 766, 0, 0, 0) := by decide +kernel
theorem k191_766 : icode MCl 191 766 = some (.iload_n 3, 767, 0, 0, 0) := by decide +kernel
theorem k191_767 : icode MCl 191 767 = some (.iconst 2, 768, 0, 0, 2) := by decide +kernel
theorem k191_768 : icode MCl 191 768 = some (.iadd, 769, 0, 0, 0) := by decide +kernel
theorem k191_769 : icode MCl 191 769 = some (.iaload, 770, 0, 0, 0) := by decide +kernel
theorem k191_770 : icode MCl 191 770 = some (.aload_n 0, 771, 0, 0, 0) := by decide +kernel
theorem k191_771 : icode MCl 191 771 = some (.iload_n 3, 772, 0, 0, 0) := by decide +kernel
theorem k191_772 : icode MCl 191 772 = some (.iconst 3, 773, 0, 0, 3) := by decide +kernel
theorem k191_773 : icode MCl 191 773 = some (.iadd, 774, 0, 0, 0) := by decide +kernel
theorem k191_774 : icode MCl 191 774 = some (.iaload, 775, 0, 0, 0) := by decide +kernel
theorem k191_775 : icode MCl 191 775 = some (.aload_n 0, 776, 0, 0, 0) := by decide +kernel
theorem k191_776 : icode MCl 191 776 = some (.iload_n 3, 777, 0, 0, 0) := by decide +kernel
theorem k191_777 : icode MCl 191 777 = some (.iconst 4, 778, 0, 0, 4) := by decide +kernel
theorem k191_778 : icode MCl 191 778 = some (.iadd, 779, 0, 0, 0) := by decide +kernel
theorem k191_779 : icode MCl 191 779 = some (.iaload, 780, 0, 0, 0) := by decide +kernel
theorem k191_780 : icode MCl 191 780 = some (.invokevirtual 109, 783, 173, 694, 0) := by decide +kernel
theorem k191_783 : icode MCl 191 783 = some (.aload_n 2, 784, 0, 0, 0) := by decide +kernel
theorem k191_784 : icode MCl 191 784 = some (.aload_n 0, 785, 0, 0, 0) := by decide +kernel
theorem k191_785 : icode MCl 191 785 = some (.iload_n 3, 786, 0, 0, 0) := by decide +kernel
theorem k191_786 : icode MCl 191 786 = some (.iconst 1, 787, 0, 0, 1) := by decide +kernel
theorem k191_787 : icode MCl 191 787 = some (.iadd, 788, 0, 0, 0) := by decide +kernel
theorem k191_788 : icode MCl 191 788 = some (.iaload, 789, 0, 0, 0) := by decide +kernel
theorem k191_789 : icode MCl 191 789 = some (.aload_n 0, 790, 0, 0, 0) := by decide +kernel
theorem k191_790 : icode MCl 191 790 = some (.iload_n 3, 791, 0, 0, 0) := by decide +kernel
theorem k191_791 : icode MCl 191 791 = some (.iconst 2, 792, 0, 0, 2) := by decide +kernel
theorem k191_792 : icode MCl 191 792 = some (.iadd, 793, 0, 0, 0) := by decide +kernel
theorem k191_793 : icode MCl 191 793 = some (.iaload, 794, 0, 0, 0) := by decide +kernel
theorem k191_794 : icode MCl 191 794 = some (.aload_n 0, 795, 0, 0, 0) := by decide +kernel
theorem k191_795 : icode MCl 191 795 = some (.iload_n 3, 796, 0, 0, 0) := by decide +kernel
theorem k191_796 : icode MCl 191 796 = some (.iconst 3, 797, 0, 0, 3) := by decide +kernel
theorem k191_797 : icode MCl 191 797 = some (.iadd, 798, 0, 0, 0) := by decide +kernel
theorem k191_798 : icode MCl 191 798 = some (.iaload, 799, 0, 0, 0) := by decide +kernel
theorem k191_799 : icode MCl 191 799 = some (.aload_n 0, 800, 0, 0, 0) := by decide +kernel
theorem k191_800 : icode MCl 191 800 = some (.iload_n 3, 801, 0, 0, 0) := by decide +kernel
theorem k191_801 : icode MCl 191 801 = some (.iconst 4, 802, 0, 0, 4) := by decide +kernel
theorem k191_802 : icode MCl 191 802 = some (.iadd, 803, 0, 0, 0) := by decide +kernel
theorem k191_803 : icode MCl 191 803 = some (.iaload, 804, 0, 0, 0) := by decide +kernel
theorem k191_804 : icode MCl 191 804 = some (.invokevirtual 113, 807, 177, 1050, 0) := by decide +kernel
theorem k191_807 : icode MCl 191 807 = some (.if_icmp .eq 97, 810, 904, 0, 0) := by decide +kernel
theorem k191_810 : icode MCl 191 810 = some (.iconst 0, 811, 0, 0, 0) := by decide +kernel
theorem k191_811 : icode MCl 191 811 = some (.ireturn, 812, 0, 0, 0) := by decide +kernel
theorem k191_812 : icode MCl 191 812 = some (.aload_n 1, 813, 0, 0, 0) := by decide +kernel
theorem k191_813 : icode MCl 191 813 = some (.aload_n 0, 814, 0, 0, 0) := by decide +kernel
theorem k191_814 : icode MCl 191 814 = some (.iload_n 3, 815, 0, 0, 0) := by decide +kernel
theorem k191_815 : icode MCl 191 815 = some (.iconst 1, 816, 0, 0, 1) := by decide +kernel
theorem k191_816 : icode MCl 191 816 = some (.iadd, 817, 0, 0, 0) := by decide +kernel
theorem k191_817 : icode MCl 191 817 = some (.iaload, 818, 0, 0, 0) := by decide +kernel
theorem k191_818 : icode MCl 191 818 = some (.aload_n 0, 819, 0, 0, 0) := by decide +kernel
theorem k191_819 : icode MCl 191 819 = some (.iload_n 3, 820, 0, 0, 0) := by decide +kernel
theorem k191_820 : icode MCl 191 820 = some (.iconst 2, 821, 0, 0, 2) := by decide +kernel
theorem k191_821 : icode MCl 191 821 = some (.iadd, 822, 0, 0, 0) := by decide +kernel
theorem k191_822 : icode MCl 191 822 = some (.iaload, 823, 0, 0, 0) := by decide +kernel
theorem k191_823 : icode MCl 191 823 = some (.aload_n 0, 824, 0, 0, 0) := by decide +kernel
theorem k191_824 : icode MCl 191 824 = some (.iload_n 3, 825, 0, 0, 0) := by decide +kernel
theorem k191_825 : icode MCl 191 825 = some (.iconst 3, 826, 0, 0, 3) := by decide +kernel
theorem k191_826 : icode MCl 191 826 = some (.iadd, 827, 0, 0, 0) := by decide +kernel
theorem k191_827 : icode MCl 191 827 = some (.iaload, 828, 0, 0, 0) := by decide +kernel
theorem k191_828 : icode MCl 191 828 = some (.invokevirtual 114, 831, 181, 715, 0) := by decide +kernel
theorem k191_831 : icode MCl 191 831 = some (.aload_n 2, 832, 0, 0, 0) := by decide +kernel
theorem k191_832 : icode MCl 191 832 = some (.aload_n 0, 833, 0, 0, 0) := by decide +kernel
theorem k191_833 : icode MCl 191 833 = some (.iload_n 3, 834, 0, 0, 0) := by decide +kernel
theorem k191_834 : icode MCl 191 834 = some (.iconst 1, 835, 0, 0, 1) := by decide +kernel
theorem k191_835 : icode MCl 191 835 = some (.iadd, 836, 0, 0, 0) := by decide +kernel
theorem k191_836 : icode MCl 191 836 = some (.iaload, 837, 0, 0, 0) := by decide +kernel
theorem k191_837 : icode MCl 191 837 = some (.aload_n 0, 838, 0, 0, 0) := by decide +kernel
theorem k191_838 : icode MCl 191 838 = some (.iload_n 3, 839, 0, 0, 0) := by decide +kernel
theorem k191_839 : icode MCl 191 839 = some (.iconst 2, 840, 0, 0, 2) := by decide +kernel
theorem k191_840 : icode MCl 191 840 = some (.iadd, 841, 0, 0, 0) := by decide +kernel
theorem k191_841 : icode MCl 191 841 = some (.iaload, 842, 0, 0, 0) := by decide +kernel
theorem k191_842 : icode MCl 191 842 = some (.aload_n 0, 843, 0, 0, 0) := by decide +kernel
theorem k191_843 : icode MCl 191 843 = some (.iload_n 3, 844, 0, 0, 0) := by decide +kernel
theorem k191_844 : icode MCl 191 844 = some (.iconst 3, 845, 0, 0, 3) := by decide +kernel
theorem k191_845 : icode MCl 191 845 = some (.iadd, 846, 0, 0, 0) := by decide +kernel
theorem k191_846 : icode MCl 191 846 = some (.iaload, 847, 0, 0, 0) := by decide +kernel
theorem k191_847 : icode MCl 191 847 = some (.invokevirtual 117, 850, 182, 1064, 0) := by decide +kernel
theorem k191_850 : icode MCl 191 850 = some (.if_icmp .eq 54, 853, 904, 0, 0) := by decide +kernel
theorem k191_853 : icode MCl 191 853 = some (.iconst 0, 854, 0, 0, 0) := by decide +kernel
theorem k191_854 : icode MCl 191 854 = some (.ireturn, 855, 0, 0, 0) := by decide +kernel
theorem k191_855 : icode MCl 191 855 = some (.aload_n 1, 856, 0, 0, 0) := by decide +kernel
theorem k191_856 : icode MCl 191 856 = some (.invokevirtual 118, 859, 183, 733, 0) := by decide +kernel
theorem k191_859 : icode MCl 191 859 = some (.aload_n 2, 860, 0, 0, 0) := by decide +kernel
theorem k191_860 : icode MCl 191 860 = some (.invokevirtual 121, 863, 184, 1071, 0) := by decide +kernel
theorem k191_863 : icode MCl 191 863 = some (.if_icmp .eq 41, 866, 904, 0, 0) := by decide +kernel
theorem k191_866 : icode MCl 191 866 = some (.iconst 0, 867, 0, 0, 0) := by decide +kernel
theorem k191_867 : icode MCl 191 867 = some (.ireturn, 868, 0, 0, 0) := by decide +kernel
theorem k191_868 : icode MCl 191 868 = some (.aload_n 1, 869, 0, 0, 0) := by decide +kernel
theorem k191_869 : icode MCl 191 869 = some (.invokevirtual 122, 872, 185, 737, 0) := by decide +kernel
theorem k191_872 : icode MCl 191 872 = some (.aload_n 2, 873, 0, 0, 0) := by decide +kernel
theorem k191_873 : icode MCl 191 873 = some (.invokevirtual 125, 876, 186, 1075, 0) := by decide +kernel
theorem k191_876 : icode MCl 191 876 = some (.if_icmp .eq 28, 879, 904, 0, 0) := by decide +kernel
theorem k191_879 : icode MCl 191 879 = some (.iconst 0, 880, 0, 0, 0) := by decide +kernel
theorem k191_880 : icode MCl 191 880 = some (.ireturn, 881, 0, 0, 0) := by decide +kernel
theorem k191_881 : icode MCl 191 881 = some (.aload_n 1, 882, 0, 0, 0) := by decide +kernel
theorem k191_882 : icode MCl 191 882 = some (.aload_n 0, 883, 0, 0, 0) := by decide +kernel
theorem k191_883 : icode MCl 191 883 = some (.iload_n 3, 884, 0, 0, 0) := by decide +kernel
theorem k191_884 : icode MCl 191 884 = some (.iconst 1, 885, 0, 0, 1) := by decide +kernel
theorem k191_885 : icode MCl 191 885 = some (.iadd, 886, 0, 0, 0) := by decide +kernel
theorem k191_886 : icode MCl 191 886 = some (.iaload, 887, 0, 0, 0) := by decide +kernel
theorem k191_887 : icode MCl 191 887 = some (.invokevirtual 126, 890, 188, 741, 0) := by decide +kernel
theorem k191_890 : icode MCl 191 890 = some (.aload_n 2, 891, 0, 0, 0) := by decide +kernel
theorem k191_891 : icode MCl 191 891 = some (.aload_n 0, 892, 0, 0, 0) := by decide +kernel
theorem k191_892 : icode MCl 191 892 = some (.iload_n 3, 893, 0, 0, 0) := by decide +kernel
theorem k191_893 : icode MCl 191 893 = some (.iconst 1, 894, 0, 0, 1) := by decide +kernel
theorem k191_894 : icode MCl 191 894 = some (.iadd, 895, 0, 0, 0) := by decide +kernel
theorem k191_895 : icode MCl 191 895 = some (.iaload, 896, 0, 0, 0) := by decide +kernel
theorem k191_896 : icode MCl 191 896 = some (.invokevirtual 129, 899, 190, 1079, 0) := by decide +kernel
theorem k191_899 : icode MCl 191 899 = some (.if_icmp .eq 5, 902, 904, 0, 0) := by decide +kernel
theorem k191_902 : icode MCl 191 902 = some (.iconst 0, 903, 0, 0, 0) := by decide +kernel
theorem k191_903 : icode MCl 191 903 = some (.ireturn, 904, 0, 0, 0) := by decide +kernel
theorem k191_904 : icode MCl 191 904 = some (.iinc 3 5, 907, 0, 0, 5) := by decide +kernel
theorem k191_907 : icode MCl 191 907 = some (.goto (-889), 910, 18, 0, 0) := by decide +kernel
theorem k191_910 : icode MCl 191 910 = some (.iconst 1, 911, 0, 0, 1) := by decide +kernel
theorem k191_911 : icode MCl 191 911 = some (.ireturn, 912, 0, 0, 0) := by decide +kernel
end
section
/-- the machine comes from here to a return with P -/
def Wp (S : Scr) (d y pc : Nat) (ls : LL) (st : List Value) (n : Nat) (f : FF) (g : GG) (P : Option Value → Nat → FF → GG → Prop) : Prop :=
  ∃ (k : Nat) (v : Option Value) (n' : Nat) (f' : FF) (g' : GG), run KKl MTl MCl S k d y pc ls st n f g = some (v, n', f', g') ∧ P v n' f' g'
section STEPS
variable {S : Scr} {d y pc n : Nat} {ls ls' : LL} {st : List Value} {f : FF} {g : GG} {P : Option Value → Nat → FF → GG → Prop} {l A B : Nat} {cv : Int32}
theorem Wp.mono {P' : Option Value → Nat → FF → GG → Prop} (h : Wp S d y pc ls st n f g P) (hp : ∀ v n' f' g', P v n' f' g' → P' v n' f' g') : Wp S d y pc ls st n f g P' := by
  obtain ⟨k, v, n', f', g', h1, h2⟩ := h
  exact ⟨k, v, n', f', g', h1, hp _ _ _ _ h2⟩
theorem w_stp {e : Ent} {pc' n' : Nat} {st' : List Value} {f' : FF} {g' : GG} (hi : icode MCl y pc = some e) (h0 : knd e ≠ 1 ∧ knd e ≠ 2 ∧ knd e ≠ 3) (hs : stp KKl S e pc ls st n f g = some (pc', ls', st', n', f', g')) (h : Wp S d y pc' ls' st' n' f' g' P) : Wp S d y pc ls st n f g P := by
  obtain ⟨k, v, n2, f2, g2, h1, h2⟩ := h
  exact ⟨k + 1, v, n2, f2, g2, run_stp hi h0 hs h1, h2⟩
/-- a call: what the callee comes to, then what follows -/
theorem w_call {e : Ent} {mt : Mth} {as rest : List Value} {Pc : Option Value → Nat → FF → GG → Prop} {ls0 : LL} (hi : icode MCl y pc = some e) (hk : knd e = 2) (hm : MTl[e.2.2.1]? = some mt) (hc : callA KKl e mt st n = some (as, rest)) (hl : entL as mt.2.2.1 = ls0) (h1 : Wp S d e.2.2.1 0 ls0 [] n f g Pc) (h2 : ∀ v n' f' g', Pc v n' f' g' → Wp S (d + 1) y e.2.1 ls (v.toList ++ rest) n' f' g' P) : Wp S (d + 1) y pc ls st n f g P := by
  subst hl
  obtain ⟨k, v, n2, f2, g2, a1, a2⟩ := h1
  obtain ⟨j, w, n3, f3, g3, b1, b2⟩ := h2 v n2 f2 g2 a2
  refine ⟨(k + j) + 1, w, n3, f3, g3, run_call hi hk hm hc (run_le a1 j) ?_, b2⟩
  rw [Nat.add_comm]
  exact run_le b1 k
theorem w_obj {e : Ent} {a : Nat} {rest : List Value} (hi : icode MCl y pc = some e) (hk : knd e = 3) (hs : Nat.ble (rest.map Value.category).sum 8 = true) (h : Wp S (d + 1) y e.2.1 ls rest n f g P) : Wp S (d + 1) y pc ls (.ref a :: rest) n f g P := by
  obtain ⟨k, v, n2, f2, g2, h1, h2⟩ := h
  exact ⟨k + 1, v, n2, f2, g2, run_obj hi hk hs h1, h2⟩
theorem w_ret {e : Ent} {mt : Mth} {v : Option Value} {n' : Nat} {f' : FF} {g' : GG} (hi : icode MCl y pc = some e) (hk : knd e = 1) (hm : MTl[y]? = some mt) (hr : rets mt.2.2.2.1 e st n f g = some (v, n', f', g')) (h : P v n' f' g') : Wp S d y pc ls st n f g P := ⟨1, v, n', f', g', run_ret hi hk hm hr, h⟩
end STEPS
/-! a step an instruction -/
section OPS
variable {S : Scr} {d y pc q n A B : Nat} {ls ls' : LL} {st : List Value} {f : FF} {g : GG} {P : Option Value → Nat → FF → GG → Prop} {cv : Int32}
theorem w_iload {k : Nat} {x : Int32} (hi : icode MCl y pc = some (.iload k, q, A, B, cv)) (hl : lget ls k = some (.int x)) (h : Wp S d y q ls (.int x :: st) n f g P) : Wp S d y pc ls (st) n f g P :=
  w_stp hi (by simp [knd]) (by simp [stp, pu, ldI, hl]) h
theorem w_iload_n {k : Fin 4} {x : Int32} (hi : icode MCl y pc = some (.iload_n k, q, A, B, cv)) (hl : lget ls k.val = some (.int x)) (h : Wp S d y q ls (.int x :: st) n f g P) : Wp S d y pc ls (st) n f g P :=
  w_stp hi (by simp [knd]) (by simp [stp, pu, ldI, hl]) h
theorem w_lload {k : Nat} {x : Int64} (hi : icode MCl y pc = some (.lload k, q, A, B, cv)) (hl : lget ls k = some (.long x)) (h : Wp S d y q ls (.long x :: st) n f g P) : Wp S d y pc ls (st) n f g P :=
  w_stp hi (by simp [knd]) (by simp [stp, pu, ldL, hl]) h
theorem w_lload_n {k : Fin 4} {x : Int64} (hi : icode MCl y pc = some (.lload_n k, q, A, B, cv)) (hl : lget ls k.val = some (.long x)) (h : Wp S d y q ls (.long x :: st) n f g P) : Wp S d y pc ls (st) n f g P :=
  w_stp hi (by simp [knd]) (by simp [stp, pu, ldL, hl]) h
theorem w_aload {k : Nat} {v : Value} (hi : icode MCl y pc = some (.aload k, q, A, B, cv)) (hl : lget ls k = some v) (ha : isA v = true) (h : Wp S d y q ls (v :: st) n f g P) : Wp S d y pc ls (st) n f g P :=
  w_stp hi (by simp [knd]) (by simp [stp, pu, ldA, hl, ha]) h
theorem w_aload_n {k : Fin 4} {v : Value} (hi : icode MCl y pc = some (.aload_n k, q, A, B, cv)) (hl : lget ls k.val = some v) (ha : isA v = true) (h : Wp S d y q ls (v :: st) n f g P) : Wp S d y pc ls (st) n f g P :=
  w_stp hi (by simp [knd]) (by simp [stp, pu, ldA, hl, ha]) h
theorem w_istore {k : Nat} {x : Int32} (hi : icode MCl y pc = some (.istore k, q, A, B, cv)) (hl : st1 ls k (.int x) = ls') (h : Wp S d y q ls' (st) n f g P) : Wp S d y pc ls (.int x :: st) n f g P :=
  w_stp hi (by simp [knd]) (by simp [stp, hl]) h
theorem w_istore_n {k : Fin 4} {x : Int32} (hi : icode MCl y pc = some (.istore_n k, q, A, B, cv)) (hl : st1 ls k.val (.int x) = ls') (h : Wp S d y q ls' (st) n f g P) : Wp S d y pc ls (.int x :: st) n f g P :=
  w_stp hi (by simp [knd]) (by simp [stp, hl]) h
theorem w_lstore {k : Nat} {x : Int64} (hi : icode MCl y pc = some (.lstore k, q, A, B, cv)) (hl : st2 ls k (.long x) = ls') (h : Wp S d y q ls' (st) n f g P) : Wp S d y pc ls (.long x :: st) n f g P :=
  w_stp hi (by simp [knd]) (by simp [stp, hl]) h
theorem w_lstore_n {k : Fin 4} {x : Int64} (hi : icode MCl y pc = some (.lstore_n k, q, A, B, cv)) (hl : st2 ls k.val (.long x) = ls') (h : Wp S d y q ls' (st) n f g P) : Wp S d y pc ls (.long x :: st) n f g P :=
  w_stp hi (by simp [knd]) (by simp [stp, hl]) h
theorem w_astore {k : Nat} {v : Value} (hi : icode MCl y pc = some (.astore k, q, A, B, cv)) (ha : isA v = true) (hl : st1 ls k v = ls') (h : Wp S d y q ls' (st) n f g P) : Wp S d y pc ls (v :: st) n f g P :=
  w_stp hi (by simp [knd]) (by simp [stp, ha, hl]) h
theorem w_astore_n {k : Fin 4} {v : Value} (hi : icode MCl y pc = some (.astore_n k, q, A, B, cv)) (ha : isA v = true) (hl : st1 ls k.val v = ls') (h : Wp S d y q ls' (st) n f g P) : Wp S d y pc ls (v :: st) n f g P :=
  w_stp hi (by simp [knd]) (by simp [stp, ha, hl]) h
theorem w_iinc {k : Nat} {z : Int} {x : Int32} (hi : icode MCl y pc = some (.iinc k z, q, A, B, cv)) (hx : lget ls k = some (.int x)) (hl : st1 ls k (.int (x + cv)) = ls') (h : Wp S d y q ls' (st) n f g P) : Wp S d y pc ls (st) n f g P :=
  w_stp hi (by simp [knd]) (by simp [stp, hx, hl]) h
theorem w_iconst {z : Int} (hi : icode MCl y pc = some (.iconst z, q, A, B, cv)) (h : Wp S d y q ls (.int cv :: st) n f g P) : Wp S d y pc ls (st) n f g P :=
  w_stp hi (by simp [knd]) (by simp [stp, ]) h
theorem w_bipush {z : Int} (hi : icode MCl y pc = some (.bipush z, q, A, B, cv)) (h : Wp S d y q ls (.int cv :: st) n f g P) : Wp S d y pc ls (st) n f g P :=
  w_stp hi (by simp [knd]) (by simp [stp, ]) h
theorem w_sipush {z : Int} (hi : icode MCl y pc = some (.sipush z, q, A, B, cv)) (h : Wp S d y q ls (.int cv :: st) n f g P) : Wp S d y pc ls (st) n f g P :=
  w_stp hi (by simp [knd]) (by simp [stp, ]) h
theorem w_ldc {z : Nat} (hi : icode MCl y pc = some (.ldc z, q, 0, B, cv)) (h : Wp S d y q ls (.int cv :: st) n f g P) : Wp S d y pc ls st n f g P :=
  w_stp hi (by simp [knd]) (by simp [stp]) h
theorem w_ldcs {z : Nat} (hi : icode MCl y pc = some (.ldc z, q, 1, B, cv)) (h : Wp S d y q ls (.float 1 :: st) n f g P) : Wp S d y pc ls st n f g P :=
  w_stp hi (by simp [knd]) (by simp [stp]) h
theorem w_ldc_w {z : Nat} (hi : icode MCl y pc = some (.ldc_w z, q, A, B, cv)) (h : Wp S d y q ls (.int cv :: st) n f g P) : Wp S d y pc ls (st) n f g P :=
  w_stp hi (by simp [knd]) (by simp [stp, ]) h
theorem w_ldc2 {z : Nat} (hi : icode MCl y pc = some (.ldc2_w z, q, A, B, cv)) (h : Wp S d y q ls (.long cv.toInt64 :: st) n f g P) : Wp S d y pc ls (st) n f g P :=
  w_stp hi (by simp [knd]) (by simp [stp, ]) h
theorem w_lconst {z : Fin 2} (hi : icode MCl y pc = some (.lconst z, q, A, B, cv)) (h : Wp S d y q ls (.long cv.toInt64 :: st) n f g P) : Wp S d y pc ls (st) n f g P :=
  w_stp hi (by simp [knd]) (by simp [stp, ]) h
theorem w_null (hi : icode MCl y pc = some (.aconst_null, q, A, B, cv)) (h : Wp S d y q ls (.null :: st) n f g P) : Wp S d y pc ls (st) n f g P :=
  w_stp hi (by simp [knd]) (by simp [stp, ]) h
theorem w_dup {v : Value} (hi : icode MCl y pc = some (.dup, q, A, B, cv)) (hv : v.category = 1) (h : Wp S d y q ls (v :: v :: st) n f g P) : Wp S d y pc ls (v :: st) n f g P :=
  w_stp hi (by simp [knd]) (by simp [stp, hv]) h
theorem w_dup2 {v w : Value} (hi : icode MCl y pc = some (.dup2, q, A, B, cv)) (hv : v.category = 1) (hw : w.category = 1) (h : Wp S d y q ls (v :: w :: v :: w :: st) n f g P) : Wp S d y pc ls (v :: w :: st) n f g P :=
  w_stp hi (by simp [knd]) (by simp [stp, hv, hw]) h
theorem w_pop {v : Value} (hi : icode MCl y pc = some (.pop, q, A, B, cv)) (hv : v.category = 1) (h : Wp S d y q ls (st) n f g P) : Wp S d y pc ls (v :: st) n f g P :=
  w_stp hi (by simp [knd]) (by simp [stp, hv]) h
theorem w_iadd {x y2 : Int32} (hi : icode MCl y pc = some (.iadd, q, A, B, cv)) (h : Wp S d y q ls (.int (x + y2) :: st) n f g P) : Wp S d y pc ls (.int y2 :: .int x :: st) n f g P :=
  w_stp hi (by simp [knd]) (by simp [stp, bin]) h
theorem w_isub {x y2 : Int32} (hi : icode MCl y pc = some (.isub, q, A, B, cv)) (h : Wp S d y q ls (.int (x - y2) :: st) n f g P) : Wp S d y pc ls (.int y2 :: .int x :: st) n f g P :=
  w_stp hi (by simp [knd]) (by simp [stp, bin]) h
theorem w_imul {x y2 : Int32} (hi : icode MCl y pc = some (.imul, q, A, B, cv)) (h : Wp S d y q ls (.int (x * y2) :: st) n f g P) : Wp S d y pc ls (.int y2 :: .int x :: st) n f g P :=
  w_stp hi (by simp [knd]) (by simp [stp, bin]) h
theorem w_iand {x y2 : Int32} (hi : icode MCl y pc = some (.iand, q, A, B, cv)) (h : Wp S d y q ls (.int (x &&& y2) :: st) n f g P) : Wp S d y pc ls (.int y2 :: .int x :: st) n f g P :=
  w_stp hi (by simp [knd]) (by simp [stp, bin]) h
theorem w_ior {x y2 : Int32} (hi : icode MCl y pc = some (.ior, q, A, B, cv)) (h : Wp S d y q ls (.int (x ||| y2) :: st) n f g P) : Wp S d y pc ls (.int y2 :: .int x :: st) n f g P :=
  w_stp hi (by simp [knd]) (by simp [stp, bin]) h
theorem w_ixor {x y2 : Int32} (hi : icode MCl y pc = some (.ixor, q, A, B, cv)) (h : Wp S d y q ls (.int (x ^^^ y2) :: st) n f g P) : Wp S d y pc ls (.int y2 :: .int x :: st) n f g P :=
  w_stp hi (by simp [knd]) (by simp [stp, bin]) h
theorem w_ishl {x y2 : Int32} (hi : icode MCl y pc = some (.ishl, q, A, B, cv)) (h : Wp S d y q ls (.int (x <<< (y2 &&& 31)) :: st) n f g P) : Wp S d y pc ls (.int y2 :: .int x :: st) n f g P :=
  w_stp hi (by simp [knd]) (by simp [stp, bin]) h
theorem w_ishr {x y2 : Int32} (hi : icode MCl y pc = some (.ishr, q, A, B, cv)) (h : Wp S d y q ls (.int (x >>> (y2 &&& 31)) :: st) n f g P) : Wp S d y pc ls (.int y2 :: .int x :: st) n f g P :=
  w_stp hi (by simp [knd]) (by simp [stp, bin]) h
theorem w_iushr {x y2 : Int32} (hi : icode MCl y pc = some (.iushr, q, A, B, cv)) (h : Wp S d y q ls (.int ((x.toUInt32 >>> (y2.toUInt32 &&& Int32.toUInt32 31)).toInt32) :: st) n f g P) : Wp S d y pc ls (.int y2 :: .int x :: st) n f g P :=
  w_stp hi (by simp [knd]) (by simp [stp, bin]) h
theorem w_idiv {x y2 : Int32} (hi : icode MCl y pc = some (.idiv, q, A, B, cv)) (hy : ¬ y2 = 0) (h : Wp S d y q ls (.int (x / y2) :: st) n f g P) : Wp S d y pc ls (.int y2 :: .int x :: st) n f g P :=
  w_stp hi (by simp [knd]) (by simp [stp, bin, hy]) h
theorem w_irem {x y2 : Int32} (hi : icode MCl y pc = some (.irem, q, A, B, cv)) (hy : ¬ y2 = 0) (h : Wp S d y q ls (.int (x - x / y2 * y2) :: st) n f g P) : Wp S d y pc ls (.int y2 :: .int x :: st) n f g P :=
  w_stp hi (by simp [knd]) (by simp [stp, bin, hy]) h
theorem w_ladd {x y2 : Int64} (hi : icode MCl y pc = some (.ladd, q, A, B, cv)) (h : Wp S d y q ls (.long (x + y2) :: st) n f g P) : Wp S d y pc ls (.long y2 :: .long x :: st) n f g P :=
  w_stp hi (by simp [knd]) (by simp [stp, binl]) h
theorem w_lmul {x y2 : Int64} (hi : icode MCl y pc = some (.lmul, q, A, B, cv)) (h : Wp S d y q ls (.long (x * y2) :: st) n f g P) : Wp S d y pc ls (.long y2 :: .long x :: st) n f g P :=
  w_stp hi (by simp [knd]) (by simp [stp, binl]) h
theorem w_ldiv {x y2 : Int64} (hi : icode MCl y pc = some (.ldiv, q, A, B, cv)) (hy : ¬ y2 = 0) (h : Wp S d y q ls (.long (x / y2) :: st) n f g P) : Wp S d y pc ls (.long y2 :: .long x :: st) n f g P :=
  w_stp hi (by simp [knd]) (by simp [stp, binl, hy]) h
theorem w_lrem {x y2 : Int64} (hi : icode MCl y pc = some (.lrem, q, A, B, cv)) (hy : ¬ y2 = 0) (h : Wp S d y q ls (.long (x - x / y2 * y2) :: st) n f g P) : Wp S d y pc ls (.long y2 :: .long x :: st) n f g P :=
  w_stp hi (by simp [knd]) (by simp [stp, binl, hy]) h
theorem w_lcmp {x y2 : Int64} (hi : icode MCl y pc = some (.lcmp, q, A, B, cv)) (h : Wp S d y q ls (.int (lg_cmp x y2) :: st) n f g P) : Wp S d y pc ls (.long y2 :: .long x :: st) n f g P :=
  w_stp hi (by simp [knd]) (by simp [stp, binl]) h
theorem w_i2l {x : Int32} (hi : icode MCl y pc = some (.i2l, q, A, B, cv)) (h : Wp S d y q ls (.long x.toInt64 :: st) n f g P) : Wp S d y pc ls (.int x :: st) n f g P :=
  w_stp hi (by simp [knd]) (by simp [stp, ]) h
theorem w_l2i {x : Int64} (hi : icode MCl y pc = some (.l2i, q, A, B, cv)) (h : Wp S d y q ls (.int x.toInt32 :: st) n f g P) : Wp S d y pc ls (.long x :: st) n f g P :=
  w_stp hi (by simp [knd]) (by simp [stp, ]) h
theorem w_i2c {x : Int32} (hi : icode MCl y pc = some (.i2c, q, A, B, cv)) (h : Wp S d y q ls (.int (x.toUInt32 % 65536).toInt32 :: st) n f g P) : Wp S d y pc ls (.int x :: st) n f g P :=
  w_stp hi (by simp [knd]) (by simp [stp, ]) h
theorem w_max {ix : Nat} {x y2 : Int32} (hi : icode MCl y pc = some (.invokestatic ix, q, 9997, B, cv)) (hs : Nat.ble (st.map Value.category).sum 8 = true) (h : Wp S d y q ls (.int (if x < y2 then y2 else x) :: st) n f g P) : Wp S d y pc ls (.int y2 :: .int x :: st) n f g P :=
  w_stp hi (by simp [knd]) (by simp only [stp, sMax, hs, if_true]) h
theorem w_goto {z : Int} (hi : icode MCl y pc = some (.goto z, q, A, B, cv)) (h : Wp S d y A ls (st) n f g P) : Wp S d y pc ls (st) n f g P :=
  w_stp hi (by simp [knd]) (by simp [stp, ]) h
theorem w_nnR {z : Int} {a : Nat} (hi : icode MCl y pc = some (.ifnonnull z, q, A, B, cv)) (h : Wp S d y A ls (st) n f g P) : Wp S d y pc ls (.ref a :: st) n f g P :=
  w_stp hi (by simp [knd]) (by simp [stp, ]) h
theorem w_nnN {z : Int} (hi : icode MCl y pc = some (.ifnonnull z, q, A, B, cv)) (h : Wp S d y q ls (st) n f g P) : Wp S d y pc ls (.null :: st) n f g P :=
  w_stp hi (by simp [knd]) (by simp [stp, ]) h
theorem w_icmp_eq {z : Int} {x y2 : Int32} (hi : icode MCl y pc = some (.if_icmp .eq z, q, A, B, cv)) (h1 : x = y2 → Wp S d y A ls st n f g P) (h2 : ¬ x = y2 → Wp S d y q ls st n f g P) : Wp S d y pc ls (.int y2 :: .int x :: st) n f g P := by
  by_cases hc : x = y2
  · exact w_stp hi (by simp [knd]) (by simp [stp, cnd, hc]) (h1 hc)
  · exact w_stp hi (by simp [knd]) (by simp [stp, cnd, hc]) (h2 hc)
theorem w_if_eq {z : Int} {x : Int32} (hi : icode MCl y pc = some (.ifCond .eq z, q, A, B, cv)) (h1 : x = 0 → Wp S d y A ls st n f g P) (h2 : ¬ x = 0 → Wp S d y q ls st n f g P) : Wp S d y pc ls (.int x :: st) n f g P := by
  by_cases hc : x = 0
  · exact w_stp hi (by simp [knd]) (by simp [stp, cnd, hc]) (h1 hc)
  · exact w_stp hi (by simp [knd]) (by simp [stp, cnd, hc]) (h2 hc)
theorem w_icmp_ne {z : Int} {x y2 : Int32} (hi : icode MCl y pc = some (.if_icmp .ne z, q, A, B, cv)) (h1 : ¬ x = y2 → Wp S d y A ls st n f g P) (h2 : x = y2 → Wp S d y q ls st n f g P) : Wp S d y pc ls (.int y2 :: .int x :: st) n f g P := by
  by_cases hc : x = y2
  · exact w_stp hi (by simp [knd]) (by simp [stp, cnd, hc]) (h2 hc)
  · exact w_stp hi (by simp [knd]) (by simp [stp, cnd, hc]) (h1 hc)
theorem w_if_ne {z : Int} {x : Int32} (hi : icode MCl y pc = some (.ifCond .ne z, q, A, B, cv)) (h1 : ¬ x = 0 → Wp S d y A ls st n f g P) (h2 : x = 0 → Wp S d y q ls st n f g P) : Wp S d y pc ls (.int x :: st) n f g P := by
  by_cases hc : x = 0
  · exact w_stp hi (by simp [knd]) (by simp [stp, cnd, hc]) (h2 hc)
  · exact w_stp hi (by simp [knd]) (by simp [stp, cnd, hc]) (h1 hc)
theorem w_icmp_lt {z : Int} {x y2 : Int32} (hi : icode MCl y pc = some (.if_icmp .lt z, q, A, B, cv)) (h1 : x < y2 → Wp S d y A ls st n f g P) (h2 : ¬ x < y2 → Wp S d y q ls st n f g P) : Wp S d y pc ls (.int y2 :: .int x :: st) n f g P := by
  by_cases hc : x < y2
  · exact w_stp hi (by simp [knd]) (by simp [stp, cnd, hc]) (h1 hc)
  · exact w_stp hi (by simp [knd]) (by simp [stp, cnd, hc]) (h2 hc)
theorem w_if_lt {z : Int} {x : Int32} (hi : icode MCl y pc = some (.ifCond .lt z, q, A, B, cv)) (h1 : x < 0 → Wp S d y A ls st n f g P) (h2 : ¬ x < 0 → Wp S d y q ls st n f g P) : Wp S d y pc ls (.int x :: st) n f g P := by
  by_cases hc : x < 0
  · exact w_stp hi (by simp [knd]) (by simp [stp, cnd, hc]) (h1 hc)
  · exact w_stp hi (by simp [knd]) (by simp [stp, cnd, hc]) (h2 hc)
theorem w_icmp_ge {z : Int} {x y2 : Int32} (hi : icode MCl y pc = some (.if_icmp .ge z, q, A, B, cv)) (h1 : y2 ≤ x → Wp S d y A ls st n f g P) (h2 : ¬ y2 ≤ x → Wp S d y q ls st n f g P) : Wp S d y pc ls (.int y2 :: .int x :: st) n f g P := by
  by_cases hc : y2 ≤ x
  · exact w_stp hi (by simp [knd]) (by simp [stp, cnd, hc]) (h1 hc)
  · exact w_stp hi (by simp [knd]) (by simp [stp, cnd, hc]) (h2 hc)
theorem w_if_ge {z : Int} {x : Int32} (hi : icode MCl y pc = some (.ifCond .ge z, q, A, B, cv)) (h1 : 0 ≤ x → Wp S d y A ls st n f g P) (h2 : ¬ 0 ≤ x → Wp S d y q ls st n f g P) : Wp S d y pc ls (.int x :: st) n f g P := by
  by_cases hc : 0 ≤ x
  · exact w_stp hi (by simp [knd]) (by simp [stp, cnd, hc]) (h1 hc)
  · exact w_stp hi (by simp [knd]) (by simp [stp, cnd, hc]) (h2 hc)
theorem w_icmp_gt {z : Int} {x y2 : Int32} (hi : icode MCl y pc = some (.if_icmp .gt z, q, A, B, cv)) (h1 : y2 < x → Wp S d y A ls st n f g P) (h2 : ¬ y2 < x → Wp S d y q ls st n f g P) : Wp S d y pc ls (.int y2 :: .int x :: st) n f g P := by
  by_cases hc : y2 < x
  · exact w_stp hi (by simp [knd]) (by simp [stp, cnd, hc]) (h1 hc)
  · exact w_stp hi (by simp [knd]) (by simp [stp, cnd, hc]) (h2 hc)
theorem w_if_gt {z : Int} {x : Int32} (hi : icode MCl y pc = some (.ifCond .gt z, q, A, B, cv)) (h1 : 0 < x → Wp S d y A ls st n f g P) (h2 : ¬ 0 < x → Wp S d y q ls st n f g P) : Wp S d y pc ls (.int x :: st) n f g P := by
  by_cases hc : 0 < x
  · exact w_stp hi (by simp [knd]) (by simp [stp, cnd, hc]) (h1 hc)
  · exact w_stp hi (by simp [knd]) (by simp [stp, cnd, hc]) (h2 hc)
theorem w_icmp_le {z : Int} {x y2 : Int32} (hi : icode MCl y pc = some (.if_icmp .le z, q, A, B, cv)) (h1 : x ≤ y2 → Wp S d y A ls st n f g P) (h2 : ¬ x ≤ y2 → Wp S d y q ls st n f g P) : Wp S d y pc ls (.int y2 :: .int x :: st) n f g P := by
  by_cases hc : x ≤ y2
  · exact w_stp hi (by simp [knd]) (by simp [stp, cnd, hc]) (h1 hc)
  · exact w_stp hi (by simp [knd]) (by simp [stp, cnd, hc]) (h2 hc)
theorem w_if_le {z : Int} {x : Int32} (hi : icode MCl y pc = some (.ifCond .le z, q, A, B, cv)) (h1 : x ≤ 0 → Wp S d y A ls st n f g P) (h2 : ¬ x ≤ 0 → Wp S d y q ls st n f g P) : Wp S d y pc ls (.int x :: st) n f g P := by
  by_cases hc : x ≤ 0
  · exact w_stp hi (by simp [knd]) (by simp [stp, cnd, hc]) (h1 hc)
  · exact w_stp hi (by simp [knd]) (by simp [stp, cnd, hc]) (h2 hc)
theorem w_tsw {df lo hi2 : Int} {offs : Array Int} {x : Int32} {t : Nat} (hi : icode MCl y pc = some (.tableswitch df lo hi2 offs, q, A, B, cv)) (ht : tsw pc df lo hi2 offs x = some t) (h : Wp S d y t ls (st) n f g P) : Wp S d y pc ls (.int x :: st) n f g P :=
  w_stp hi (by simp [knd]) (by simp [stp, ht]) h
theorem w_geti {ix a ci sz k : Nat} (hi : icode MCl y pc = some (.getfield ix, q, A, B, 0)) (hk : kd KKl n a = some (ci, sz)) (hA : ci < 20 ∧ ci = A / 100 ∧ A % 100 = k ∧ k < sz) (h : Wp S d y q ls (.int (f a k) :: st) n f g P) : Wp S d y pc ls (.ref a :: st) n f g P := by
  obtain ⟨h1, h2, h3, h4⟩ := hA
  subst h3
  exact w_stp hi (by simp [knd]) (by simp [stp, sGet, hk, ← h2, h1, h4]) h
theorem w_getv {ix a ci sz k : Nat} (hi : icode MCl y pc = some (.getfield ix, q, A, B, 1)) (hk : kd KKl n a = some (ci, sz)) (hA : ci < 20 ∧ ci = A / 100 ∧ A % 100 = k ∧ k < sz) (h : Wp S d y q ls (va_rf (g a k) :: st) n f g P) : Wp S d y pc ls (.ref a :: st) n f g P := by
  obtain ⟨h1, h2, h3, h4⟩ := hA
  subst h3
  exact w_stp hi (by simp [knd]) (by simp [stp, sGet, hk, ← h2, h1, h4]) h
theorem w_getr {ix a ci sz k b : Nat} (hi : icode MCl y pc = some (.getfield ix, q, A, B, 1)) (hk : kd KKl n a = some (ci, sz)) (hA : ci < 20 ∧ ci = A / 100 ∧ A % 100 = k ∧ k < sz) (hg : g a k = some b) (h : Wp S d y q ls (.ref b :: st) n f g P) : Wp S d y pc ls (.ref a :: st) n f g P := by
  obtain ⟨h1, h2, h3, h4⟩ := hA
  subst h3
  exact w_stp hi (by simp [knd]) (by simp [stp, sGet, hk, hg, va_rf, ← h2, h1, h4]) h
theorem w_puti {ix a ci sz k : Nat} {x : Int32} (hi : icode MCl y pc = some (.putfield ix, q, A, B, 0)) (hk : kd KKl n a = some (ci, sz)) (hA : ci < 20 ∧ ci = A / 100 ∧ A % 100 = k ∧ k < sz) (h : Wp S d y q ls (st) n (fup f a k x) g P) : Wp S d y pc ls (.int x :: .ref a :: st) n f g P := by
  obtain ⟨h1, h2, h3, h4⟩ := hA
  subst h3
  exact w_stp hi (by simp [knd]) (by simp [stp, sPut, hk, ← h2, h1, h4]) h
theorem w_putr {ix a ci sz k b : Nat} (hi : icode MCl y pc = some (.putfield ix, q, A, B, 1)) (hk : kd KKl n a = some (ci, sz)) (hA : ci < 20 ∧ ci = A / 100 ∧ A % 100 = k ∧ k < sz) (h : Wp S d y q ls (st) n f (gup g a k (some b)) P) : Wp S d y pc ls (.ref b :: .ref a :: st) n f g P := by
  obtain ⟨h1, h2, h3, h4⟩ := hA
  subst h3
  exact w_stp hi (by simp [knd]) (by simp [stp, sPut, hk, ← h2, h1, h4]) h
theorem w_alen {a k sz : Nat} {x : Int32} (hi : icode MCl y pc = some (.arraylength, q, A, B, cv)) (hk : kd KKl n a = some (k, sz)) (h20 : 20 ≤ k) (hv : Int32.ofNat sz = x) (h : Wp S d y q ls (.int x :: st) n f g P) : Wp S d y pc ls (.ref a :: st) n f g P :=
  w_stp hi (by simp [knd]) (by simp [stp, sALen, hk, h20, hv]) h
theorem w_slen (hi : icode MCl y pc = some (.arraylength, q, A, B, cv)) (h : Wp S d y q ls (.int (Int32.ofNat S.2) :: st) n f g P) : Wp S d y pc ls (.float 0 :: st) n f g P :=
  w_stp hi (by simp [knd]) (by simp [stp, sALen]) h
theorem w_blen (hi : icode MCl y pc = some (.arraylength, q, A, B, cv)) (h : Wp S d y q ls (.int 99 :: st) n f g P) : Wp S d y pc ls (.float 2 :: st) n f g P :=
  w_stp hi (by simp [knd]) (by simp [stp, sALen]) h
theorem w_ixn {x : Int32} {j sz : Nat} (hz : ¬ x < 0) (hj : x.toNatClampNeg = j) (hs : j < sz) : ¬ (x < 0 ∨ sz ≤ x.toNatClampNeg) := by
  rintro (h | h)
  · exact hz h
  · omega
theorem w_iald {a sz j : Nat} {x : Int32} (hi : icode MCl y pc = some (.iaload, q, A, B, cv)) (hk : kd KKl n a = some (20, sz)) (hz : ¬ x < 0) (hj : x.toNatClampNeg = j) (hs : j < sz) (h : Wp S d y q ls (.int (f a j) :: st) n f g P) : Wp S d y pc ls (.int x :: .ref a :: st) n f g P := by
  have hx := w_ixn hz hj hs
  subst hj
  exact w_stp hi (by simp [knd]) (by simp only [stp, sIald, hk, hx, not_false_eq_true, and_self, if_true, and_true, true_and]) h
theorem w_iast {a sz j : Nat} {x w : Int32} (hi : icode MCl y pc = some (.iastore, q, A, B, cv)) (hk : kd KKl n a = some (20, sz)) (hz : ¬ x < 0) (hj : x.toNatClampNeg = j) (hs : j < sz) (h : Wp S d y q ls (st) n (fup f a j w) g P) : Wp S d y pc ls (.int w :: .int x :: .ref a :: st) n f g P := by
  have hx := w_ixn hz hj hs
  subst hj
  exact w_stp hi (by simp [knd]) (by simp only [stp, sIast, hk, hx, not_false_eq_true, and_self, if_true, and_true, true_and]) h
theorem w_sld {j : Nat} {x : Int32} (hi : icode MCl y pc = some (.iaload, q, A, B, cv)) (hz : ¬ x < 0) (hj : x.toNatClampNeg = j) (hs : j < S.2) (h : Wp S d y q ls (.int (S.1 j) :: st) n f g P) : Wp S d y pc ls (.int x :: .float 0 :: st) n f g P := by
  have hx := w_ixn hz hj hs
  subst hj
  exact w_stp hi (by simp [knd]) (by simp only [stp, sIald, hx, not_false_eq_true, and_self, if_true]) h
theorem w_bld {j : Nat} {x : Int32} (hi : icode MCl y pc = some (.baload, q, A, B, cv)) (hz : ¬ x < 0) (hj : x.toNatClampNeg = j) (hs : j < 99) (h : Wp S d y q ls (.int (strB.getD j 0) :: st) n f g P) : Wp S d y pc ls (.int x :: .float 2 :: st) n f g P := by
  have hx := w_ixn hz hj hs
  subst hj
  exact w_stp hi (by simp [knd]) (by simp only [stp, sBald, hx, not_false_eq_true, and_self, if_true]) h
theorem w_aald {a k sz j b : Nat} {x : Int32} (hi : icode MCl y pc = some (.aaload, q, A, B, cv)) (hk : kd KKl n a = some (k, sz)) (h20 : 20 < k) (hz : ¬ x < 0) (hj : x.toNatClampNeg = j) (hs : j < sz) (hg : g a j = some b) (h : Wp S d y q ls (.ref b :: st) n f g P) : Wp S d y pc ls (.int x :: .ref a :: st) n f g P := by
  have hx := w_ixn hz hj hs
  subst hj
  exact w_stp hi (by simp [knd]) (by simp only [stp, sAald, hk, h20, hx, not_false_eq_true, and_self, if_true, hg, va_rf]) h
theorem w_aast {a v k sz j sv : Nat} {x : Int32} (hi : icode MCl y pc = some (.aastore, q, A, B, cv)) (hk : kd KKl n a = some (k, sz)) (hv : kd KKl n v = some (elK k, sv)) (h20 : k = 21 ∨ k = 22) (hz : ¬ x < 0) (hj : x.toNatClampNeg = j) (hs : j < sz) (h : Wp S d y q ls st n f (gup g a j (some v)) P) : Wp S d y pc ls (.ref v :: .int x :: .ref a :: st) n f g P := by
  have hx := w_ixn hz hj hs
  subst hj
  exact w_stp hi (by simp [knd]) (by simp only [stp, sAast, hk, hv, h20, hx, not_false_eq_true, and_self, if_true]) h
theorem w_new {ix sz : Nat} (hi : icode MCl y pc = some (.new ix, q, A, B, cv)) (hk : KKl[n]? = some (A, sz)) (hA : A < 20) (h : Wp S d y q ls (.ref n :: st) (n + 1) f g P) : Wp S d y pc ls st n f g P :=
  w_stp hi (by simp [knd]) (by simp [stp, sNewO, hk, hA]) h
theorem w_newa {t : ArrayType} {x : Int32} {sz : Nat} (hi : icode MCl y pc = some (.newarray t, q, A, B, cv)) (hx : ¬ x < 0 ∧ x.toNatClampNeg ≤ 1000) (hs : x.toNatClampNeg = sz) (hk : KKl[n]? = some (20, sz)) (h : Wp S d y q ls (.ref n :: st) (n + 1) f g P) : Wp S d y pc ls (.int x :: st) n f g P := by
  subst hs
  exact w_stp hi (by simp [knd]) (by simp only [stp, sNewA, sNew, hx, hk, not_false_eq_true, and_self, if_true]) h
theorem w_anewa {ix : Nat} {x : Int32} {sz : Nat} (hi : icode MCl y pc = some (.anewarray ix, q, A, B, cv)) (hx : ¬ x < 0 ∧ x.toNatClampNeg ≤ 1000) (hs : x.toNatClampNeg = sz) (hk : KKl[n]? = some (A, sz)) (h : Wp S d y q ls (.ref n :: st) (n + 1) f g P) : Wp S d y pc ls (.int x :: st) n f g P := by
  subst hs
  exact w_stp hi (by simp [knd]) (by simp only [stp, sNewA, sNew, hx, hk, not_false_eq_true, and_self, if_true]) h
theorem w_strv {ix : Nat} (hi : icode MCl y pc = some (.getfield ix, q, 9000, B, cv)) (h : Wp S d y q ls (.float 2 :: st) n f g P) : Wp S d y pc ls (.float 1 :: st) n f g P :=
  w_stp hi (by simp [knd]) (by simp [stp, sGet]) h
theorem w_strc {ix : Nat} (hi : icode MCl y pc = some (.getfield ix, q, 9001, B, cv)) (h : Wp S d y q ls (.int 0 :: st) n f g P) : Wp S d y pc ls (.float 1 :: st) n f g P :=
  w_stp hi (by simp [knd]) (by simp [stp, sGet]) h
theorem w_gs0 {ix : Nat} (hi : icode MCl y pc = some (.getstatic ix, q, 0, B, cv)) (h : Wp S d y q ls (.int 1 :: st) n f g P) : Wp S d y pc ls st n f g P :=
  w_stp hi (by simp [knd]) (by simp [stp]) h
theorem w_gs1 {ix : Nat} (hi : icode MCl y pc = some (.getstatic ix, q, 1, B, cv)) (h : Wp S d y q ls (.float 3 :: st) n f g P) : Wp S d y pc ls st n f g P :=
  w_stp hi (by simp [knd]) (by simp [stp]) h
/-- exactly this end -/
def Is (v0 : Option Value) (n0 : Nat) (f0 : FF) (g0 : GG) : Option Value → Nat → FF → GG → Prop := fun v n f g => v = v0 ∧ n = n0 ∧ f = f0 ∧ g = g0
theorem w_iret {mt : Mth} {x : Int32} (hi : icode MCl y pc = some (.ireturn, q, A, B, cv)) (hm : MTl[y]? = some mt) (ty : FieldType) (hr : mt.2.2.2.1 = some ty) (hn : narrow ty (.int x) = .int x) (h : P (some (.int x)) n f g) : Wp S d y pc ls [.int x] n f g P :=
  w_ret hi (by simp [knd]) hm (by simp [rets, hr, hn]) h
theorem w_lret {mt : Mth} {x : Int64} (hi : icode MCl y pc = some (.lreturn, q, A, B, cv)) (hm : MTl[y]? = some mt) (hr : mt.2.2.2.1 = some .long) (h : P (some (.long x)) n f g) : Wp S d y pc ls [.long x] n f g P :=
  w_ret hi (by simp [knd]) hm (by simp [rets, hr]) h
theorem w_aret {mt : Mth} {a : Nat} {s : String} (hi : icode MCl y pc = some (.areturn, q, A, B, cv)) (hm : MTl[y]? = some mt) (hr : mt.2.2.2.1 = some (.object s)) (h : P (some (.ref a)) n f g) : Wp S d y pc ls [.ref a] n f g P :=
  w_ret hi (by simp [knd]) hm (by simp [rets, hr]) h
theorem w_vret {mt : Mth} (hi : icode MCl y pc = some (.return_, q, A, B, cv)) (hm : MTl[y]? = some mt) (hr : mt.2.2.2.1 = none) (h : P none n f g) : Wp S d y pc ls [] n f g P :=
  w_ret hi (by simp [knd]) hm (by simp [rets, hr]) h
theorem w_obj0 {ix a : Nat} {rest : List Value} (hi : icode MCl y pc = some (.invokespecial ix, q, 9999, B, cv)) (hs : Nat.ble (rest.map Value.category).sum 8 = true) (h : Wp S (d + 1) y q ls rest n f g P) : Wp S (d + 1) y pc ls (.ref a :: rest) n f g P :=
  w_obj hi (by simp [knd]) hs h
/-- a call's fixed conditions -/
def mOk (mt : Mth) (na : Nat) (stat : Bool) (as rest : List Value) : Bool := decide (mt.2.2.2.2.1 = na) && (mt.2.2.2.2.2.1 == stat) && Nat.ble (rest.map Value.category).sum 8 && Nat.ble (entL1 as).length mt.2.2.1
theorem mOk_spec {mt : Mth} {na : Nat} {stat : Bool} {as rest : List Value} (h : mOk mt na stat as rest = true) : mt.2.2.2.2.1 = na ∧ mt.2.2.2.2.2.1 = stat ∧ Nat.ble (rest.map Value.category).sum 8 = true ∧ (entL1 as).length ≤ mt.2.2.1 := by
  simp only [mOk, Bool.and_eq_true, decide_eq_true_eq, beq_iff_eq] at h
  exact ⟨h.1.1.1, h.1.1.2, h.1.2, Nat.le_of_ble_eq_true h.2⟩
theorem callS_ok {e : Ent} {ix : Nat} {mt : Mth} {as rest st : List Value} (he : e.1 = .invokestatic ix) (hst : st = as.reverse ++ rest) (hm : mOk mt as.length true as rest = true) : callA KKl e mt st n = some (as, rest) := by
  obtain ⟨h1, h2, h3, h4⟩ := mOk_spec hm
  subst hst
  have e1 : (as.reverse ++ rest).take mt.2.2.2.2.1 = as.reverse := by rw [h1, ← List.length_reverse (as := as)]; exact List.take_left
  have e2 : (as.reverse ++ rest).drop mt.2.2.2.2.1 = rest := by rw [h1, ← List.length_reverse (as := as)]; exact List.drop_left
  have e3 : mt.2.2.2.2.1 ≤ (as.reverse ++ rest).length := by rw [h1, List.length_append, List.length_reverse]; omega
  unfold callA
  rw [e1, e2, List.reverse_reverse, if_pos ⟨e3, h3, h4⟩, he]
  simp [h2]
theorem callV_ok {e : Ent} {ix a ci sz : Nat} {mt : Mth} {as rest st : List Value} (he : e.1 = .invokevirtual ix) (hk : kd KKl n a = some (ci, sz)) (hci : ci = mt.2.2.2.2.2.2 ∧ ci < 20) (hst : st = as.reverse ++ .ref a :: rest) (hm : mOk mt (as.length + 1) false (.ref a :: as) rest = true) : callA KKl e mt st n = some (.ref a :: as, rest) := by
  obtain ⟨h1, h2, h3, h4⟩ := mOk_spec hm
  have hst' : st = (Value.ref a :: as).reverse ++ rest := by rw [hst]; simp
  subst hst'
  have hl : (Value.ref a :: as).reverse.length = mt.2.2.2.2.1 := by rw [h1]; simp
  have e1 : ((Value.ref a :: as).reverse ++ rest).take mt.2.2.2.2.1 = (Value.ref a :: as).reverse := by rw [← hl]; exact List.take_left
  have e2 : ((Value.ref a :: as).reverse ++ rest).drop mt.2.2.2.2.1 = rest := by rw [← hl]; exact List.drop_left
  have e3 : mt.2.2.2.2.1 ≤ ((Value.ref a :: as).reverse ++ rest).length := by rw [← hl, List.length_append]; omega
  unfold callA
  rw [e1, e2, List.reverse_reverse, if_pos ⟨e3, h3, h4⟩, he]
  obtain ⟨rfl, hc2⟩ := hci
  simp [h2, recOk, hk, hc2]
theorem callI_ok {e : Ent} {ix a ci sz : Nat} {mt : Mth} {as rest st : List Value} (he : e.1 = .invokespecial ix) (hk : kd KKl n a = some (ci, sz)) (hci : ci = mt.2.2.2.2.2.2 ∧ ci < 20 ∧ mt.1.name = "<init>" ∧ mt.2.2.2.1 = none) (hst : st = as.reverse ++ .ref a :: rest) (hm : mOk mt (as.length + 1) false (.ref a :: as) rest = true) : callA KKl e mt st n = some (.ref a :: as, rest) := by
  obtain ⟨h1, h2, h3, h4⟩ := mOk_spec hm
  have hst' : st = (Value.ref a :: as).reverse ++ rest := by rw [hst]; simp
  subst hst'
  have hl : (Value.ref a :: as).reverse.length = mt.2.2.2.2.1 := by rw [h1]; simp
  have e1 : ((Value.ref a :: as).reverse ++ rest).take mt.2.2.2.2.1 = (Value.ref a :: as).reverse := by rw [← hl]; exact List.take_left
  have e2 : ((Value.ref a :: as).reverse ++ rest).drop mt.2.2.2.2.1 = rest := by rw [← hl]; exact List.drop_left
  have e3 : mt.2.2.2.2.1 ≤ ((Value.ref a :: as).reverse ++ rest).length := by rw [← hl, List.length_append]; omega
  unfold callA
  rw [e1, e2, List.reverse_reverse, if_pos ⟨e3, h3, h4⟩, he]
  obtain ⟨rfl, hc2, hc3, hc4⟩ := hci
  simp [h2, recOk, hk, hc2, hc3, hc4]
section CALLS
variable {ix a ci sz n0 : Nat} {mt : Mth} {as rest : List Value} {ls0 : LL} {w : Value} {f0 : FF} {g0 : GG} {Pc : Option Value → Nat → FF → GG → Prop}
/-- static calls: an answer, none, any -/
theorem w_sI (hi : icode MCl y pc = some (.invokestatic ix, q, A, B, cv)) (hA : A ≠ 9997) (hm : MTl[A]? = some mt) (as : List Value) (hst : st = as.reverse ++ rest) (ho : mOk mt as.length true as rest = true) (hl : entL as mt.2.2.1 = ls0) (h1 : Wp S d A 0 ls0 [] n f g (Is (some w) n0 f0 g0)) (h2 : Wp S (d + 1) y q ls (w :: rest) n0 f0 g0 P) : Wp S (d + 1) y pc ls st n f g P :=
  w_call hi (by simp [knd, hA]) hm (callS_ok rfl hst ho) hl h1 (by rintro v n' f' g' ⟨rfl, rfl, rfl, rfl⟩; exact h2)
theorem w_sV (hi : icode MCl y pc = some (.invokestatic ix, q, A, B, cv)) (hA : A ≠ 9997) (hm : MTl[A]? = some mt) (as : List Value) (hst : st = as.reverse ++ rest) (ho : mOk mt as.length true as rest = true) (hl : entL as mt.2.2.1 = ls0) (h1 : Wp S d A 0 ls0 [] n f g (Is none n0 f0 g0)) (h2 : Wp S (d + 1) y q ls rest n0 f0 g0 P) : Wp S (d + 1) y pc ls st n f g P :=
  w_call hi (by simp [knd, hA]) hm (callS_ok rfl hst ho) hl h1 (by rintro v n' f' g' ⟨rfl, rfl, rfl, rfl⟩; exact h2)
theorem w_sA (hi : icode MCl y pc = some (.invokestatic ix, q, A, B, cv)) (hA : A ≠ 9997) (hm : MTl[A]? = some mt) (as : List Value) (hst : st = as.reverse ++ rest) (ho : mOk mt as.length true as rest = true) (hl : entL as mt.2.2.1 = ls0) (h1 : Wp S d A 0 ls0 [] n f g Pc) (h2 : ∀ v n' f' g', Pc v n' f' g' → Wp S (d + 1) y q ls (v.toList ++ rest) n' f' g' P) : Wp S (d + 1) y pc ls st n f g P :=
  w_call hi (by simp [knd, hA]) hm (callS_ok rfl hst ho) hl h1 h2
/-- calls of an object's methods -/
theorem w_vI (hi : icode MCl y pc = some (.invokevirtual ix, q, A, B, cv)) (hm : MTl[A]? = some mt) (hk : kd KKl n a = some (ci, sz)) (hci : ci = mt.2.2.2.2.2.2 ∧ ci < 20) (as : List Value) (hst : st = as.reverse ++ .ref a :: rest) (ho : mOk mt (as.length + 1) false (.ref a :: as) rest = true) (hl : entL (.ref a :: as) mt.2.2.1 = ls0) (h1 : Wp S d A 0 ls0 [] n f g (Is (some w) n0 f0 g0)) (h2 : Wp S (d + 1) y q ls (w :: rest) n0 f0 g0 P) : Wp S (d + 1) y pc ls st n f g P :=
  w_call hi (by simp [knd]) hm (callV_ok rfl hk hci hst ho) hl h1 (by rintro v n' f' g' ⟨rfl, rfl, rfl, rfl⟩; exact h2)
theorem w_vV (hi : icode MCl y pc = some (.invokevirtual ix, q, A, B, cv)) (hm : MTl[A]? = some mt) (hk : kd KKl n a = some (ci, sz)) (hci : ci = mt.2.2.2.2.2.2 ∧ ci < 20) (as : List Value) (hst : st = as.reverse ++ .ref a :: rest) (ho : mOk mt (as.length + 1) false (.ref a :: as) rest = true) (hl : entL (.ref a :: as) mt.2.2.1 = ls0) (h1 : Wp S d A 0 ls0 [] n f g (Is none n0 f0 g0)) (h2 : Wp S (d + 1) y q ls rest n0 f0 g0 P) : Wp S (d + 1) y pc ls st n f g P :=
  w_call hi (by simp [knd]) hm (callV_ok rfl hk hci hst ho) hl h1 (by rintro v n' f' g' ⟨rfl, rfl, rfl, rfl⟩; exact h2)
theorem w_vA (hi : icode MCl y pc = some (.invokevirtual ix, q, A, B, cv)) (hm : MTl[A]? = some mt) (hk : kd KKl n a = some (ci, sz)) (hci : ci = mt.2.2.2.2.2.2 ∧ ci < 20) (as : List Value) (hst : st = as.reverse ++ .ref a :: rest) (ho : mOk mt (as.length + 1) false (.ref a :: as) rest = true) (hl : entL (.ref a :: as) mt.2.2.1 = ls0) (h1 : Wp S d A 0 ls0 [] n f g Pc) (h2 : ∀ v n' f' g', Pc v n' f' g' → Wp S (d + 1) y q ls (v.toList ++ rest) n' f' g' P) : Wp S (d + 1) y pc ls st n f g P :=
  w_call hi (by simp [knd]) hm (callV_ok rfl hk hci hst ho) hl h1 h2
theorem w_iV (hi : icode MCl y pc = some (.invokespecial ix, q, A, B, cv)) (hA : A ≠ 9999) (hm : MTl[A]? = some mt) (hk : kd KKl n a = some (ci, sz)) (hci : ci = mt.2.2.2.2.2.2 ∧ ci < 20 ∧ mt.1.name = "<init>" ∧ mt.2.2.2.1 = none) (as : List Value) (hst : st = as.reverse ++ .ref a :: rest) (ho : mOk mt (as.length + 1) false (.ref a :: as) rest = true) (hl : entL (.ref a :: as) mt.2.2.1 = ls0) (h1 : Wp S d A 0 ls0 [] n f g (Is none n0 f0 g0)) (h2 : Wp S (d + 1) y q ls rest n0 f0 g0 P) : Wp S (d + 1) y pc ls st n f g P :=
  w_call hi (by simp [knd, hA]) hm (callI_ok rfl hk hci hst ho) hl h1 (by rintro v n' f' g' ⟨rfl, rfl, rfl, rfl⟩; exact h2)
theorem w_iA (hi : icode MCl y pc = some (.invokespecial ix, q, A, B, cv)) (hA : A ≠ 9999) (hm : MTl[A]? = some mt) (hk : kd KKl n a = some (ci, sz)) (hci : ci = mt.2.2.2.2.2.2 ∧ ci < 20 ∧ mt.1.name = "<init>" ∧ mt.2.2.2.1 = none) (as : List Value) (hst : st = as.reverse ++ .ref a :: rest) (ho : mOk mt (as.length + 1) false (.ref a :: as) rest = true) (hl : entL (.ref a :: as) mt.2.2.1 = ls0) (h1 : Wp S d A 0 ls0 [] n f g Pc) (h2 : ∀ v n' f' g', Pc v n' f' g' → Wp S (d + 1) y q ls (v.toList ++ rest) n' f' g' P) : Wp S (d + 1) y pc ls st n f g P :=
  w_call hi (by simp [knd, hA]) hm (callI_ok rfl hk hci hst ho) hl h1 h2
end CALLS
end OPS
end
section
/-! SPECS, 1: words of the specs, whole numbers, rows of stitches -/
def bI (b : Bool) : Int32 := if b = true then 1 else 0
theorem w_top {S : Scr} {d y pc n : Nat} {ls : LL} {st : List Value} {f : FF} {g : GG} {P : Option Value → Nat → FF → GG → Prop} {x : Int32} (x' : Int32) (h : x = x') (k : Wp S d y pc ls (.int x' :: st) n f g P) : Wp S d y pc ls (.int x :: st) n f g P := h ▸ k
theorem w_topL {S : Scr} {d y pc n : Nat} {ls : LL} {st : List Value} {f : FF} {g : GG} {P : Option Value → Nat → FF → GG → Prop} {x : Int64} (x' : Int64) (h : x = x') (k : Wp S d y pc ls (.long x' :: st) n f g P) : Wp S d y pc ls (.long x :: st) n f g P := h ▸ k
theorem sh_l : ∀ k, k < 32 → ((nI k &&& 31).toBitVec.smod 32).toNat = k := by decide
theorem shr_n {r k : Nat} (hr : r < 2 ^ 31) (hk : k < 32) : nI r >>> (nI k &&& 31) = nI (r / 2 ^ k) := pk_shrN hr _ k (sh_l k hk)
theorem shl_n {r k : Nat} (hk : k < 32) (hr : r * 2 ^ k < 2 ^ 32) : nI r <<< (nI k &&& 31) = nI (r * 2 ^ k) := pk_shlN _ k (sh_l k hk) hr
theorem and_n {r : Nat} (hr : r < 2 ^ 32) (k : Nat) (m : Int32) (hm : m.toBitVec.toNat = 2 ^ k - 1) : nI r &&& m = nI (r % 2 ^ k) := pk_andN hr k hm
theorem pow4 (i : Nat) : 2 ^ (2 * i) = 4 ^ i := by rw [Nat.pow_mul]
theorem nI_2 : (2 : Int32) = nI 2 := rfl
/-- refs that stay -/
def refsL : List (Nat × Nat × Nat) := [(0, 0, 1), (0, 1, 3), (0, 2, 17), (0, 3, 21), (0, 4, 30), (0, 5, 39), (0, 6, 113), (0, 7, 133), (1, 0, 2), (3, 0, 4), (3, 1, 8), (3, 2, 1), (4, 0, 5), (4, 1, 6), (4, 2, 7), (8, 0, 9), (8, 1, 10), (9, 0, 11), (9, 1, 12), (9, 2, 13), (9, 3, 14), (9, 4, 15), (9, 5, 16), (17, 0, 18), (17, 1, 19), (17, 2, 20), (21, 0, 22), (21, 1, 23), (22, 0, 24), (22, 1, 25), (22, 2, 26), (22, 3, 27), (22, 4, 28), (22, 5, 29), (30, 0, 31), (30, 1, 32), (31, 0, 33), (31, 1, 34), (31, 2, 35), (31, 3, 36), (31, 4, 37), (31, 5, 38), (39, 0, 40), (41, 0, 42), (41, 1, 43), (42, 0, 44), (42, 1, 45), (42, 2, 46), (42, 3, 47), (42, 4, 48), (42, 5, 49), (50, 0, 51), (50, 1, 52), (51, 0, 53), (51, 1, 54), (51, 2, 55), (51, 3, 56), (51, 4, 57), (51, 5, 58), (59, 0, 60), (59, 1, 61), (60, 0, 62), (60, 1, 63), (60, 2, 64), (60, 3, 65), (60, 4, 66), (60, 5, 67), (68, 0, 69), (68, 1, 70), (69, 0, 71), (69, 1, 72), (69, 2, 73), (69, 3, 74), (69, 4, 75), (69, 5, 76), (77, 0, 78), (77, 1, 79), (78, 0, 80), (78, 1, 81), (78, 2, 82), (78, 3, 83), (78, 4, 84), (78, 5, 85), (86, 0, 87), (86, 1, 88), (87, 0, 89), (87, 1, 90), (87, 2, 91), (87, 3, 92), (87, 4, 93), (87, 5, 94), (95, 0, 96), (95, 1, 97), (96, 0, 98), (96, 1, 99), (96, 2, 100), (96, 3, 101), (96, 4, 102), (96, 5, 103), (104, 0, 105), (104, 1, 106), (105, 0, 107), (105, 1, 108), (105, 2, 109), (105, 3, 110), (105, 4, 111), (105, 5, 112), (113, 0, 114), (114, 0, 115), (114, 1, 124), (115, 0, 116), (115, 1, 117), (116, 0, 118), (116, 1, 119), (116, 2, 120), (116, 3, 121), (116, 4, 122), (116, 5, 123), (124, 0, 125), (124, 1, 126), (125, 0, 127), (125, 1, 128), (125, 2, 129), (125, 3, 130), (125, 4, 131), (125, 5, 132), (133, 0, 134), (133, 1, 135), (133, 2, 136), (137, 1, 138), (137, 6, 139), (137, 7, 140), (137, 8, 141), (137, 9, 142), (137, 10, 143), (137, 11, 144), (137, 13, 145), (137, 14, 146), (137, 15, 147), (137, 16, 148), (137, 17, 149), (137, 20, 150), (137, 22, 151), (137, 24, 152)]
def GOk (g : GG) : Prop := ∀ q ∈ refsL, g q.1 q.2.1 = some q.2.2
theorem r0_0 {g : GG} (G : GOk g) : g 0 0 = some 1 := G (0, 0, 1) (List.mem_of_getElem? (i := 0) rfl)
theorem r0_1 {g : GG} (G : GOk g) : g 0 1 = some 3 := G (0, 1, 3) (List.mem_of_getElem? (i := 1) rfl)
theorem r0_2 {g : GG} (G : GOk g) : g 0 2 = some 17 := G (0, 2, 17) (List.mem_of_getElem? (i := 2) rfl)
theorem r0_3 {g : GG} (G : GOk g) : g 0 3 = some 21 := G (0, 3, 21) (List.mem_of_getElem? (i := 3) rfl)
theorem r0_4 {g : GG} (G : GOk g) : g 0 4 = some 30 := G (0, 4, 30) (List.mem_of_getElem? (i := 4) rfl)
theorem r0_5 {g : GG} (G : GOk g) : g 0 5 = some 39 := G (0, 5, 39) (List.mem_of_getElem? (i := 5) rfl)
theorem r0_6 {g : GG} (G : GOk g) : g 0 6 = some 113 := G (0, 6, 113) (List.mem_of_getElem? (i := 6) rfl)
theorem r0_7 {g : GG} (G : GOk g) : g 0 7 = some 133 := G (0, 7, 133) (List.mem_of_getElem? (i := 7) rfl)
theorem r1_0 {g : GG} (G : GOk g) : g 1 0 = some 2 := G (1, 0, 2) (List.mem_of_getElem? (i := 8) rfl)
theorem r3_0 {g : GG} (G : GOk g) : g 3 0 = some 4 := G (3, 0, 4) (List.mem_of_getElem? (i := 9) rfl)
theorem r3_1 {g : GG} (G : GOk g) : g 3 1 = some 8 := G (3, 1, 8) (List.mem_of_getElem? (i := 10) rfl)
theorem r3_2 {g : GG} (G : GOk g) : g 3 2 = some 1 := G (3, 2, 1) (List.mem_of_getElem? (i := 11) rfl)
theorem r4_0 {g : GG} (G : GOk g) : g 4 0 = some 5 := G (4, 0, 5) (List.mem_of_getElem? (i := 12) rfl)
theorem r4_1 {g : GG} (G : GOk g) : g 4 1 = some 6 := G (4, 1, 6) (List.mem_of_getElem? (i := 13) rfl)
theorem r4_2 {g : GG} (G : GOk g) : g 4 2 = some 7 := G (4, 2, 7) (List.mem_of_getElem? (i := 14) rfl)
theorem r8_0 {g : GG} (G : GOk g) : g 8 0 = some 9 := G (8, 0, 9) (List.mem_of_getElem? (i := 15) rfl)
theorem r8_1 {g : GG} (G : GOk g) : g 8 1 = some 10 := G (8, 1, 10) (List.mem_of_getElem? (i := 16) rfl)
theorem r9_0 {g : GG} (G : GOk g) : g 9 0 = some 11 := G (9, 0, 11) (List.mem_of_getElem? (i := 17) rfl)
theorem r9_1 {g : GG} (G : GOk g) : g 9 1 = some 12 := G (9, 1, 12) (List.mem_of_getElem? (i := 18) rfl)
theorem r9_2 {g : GG} (G : GOk g) : g 9 2 = some 13 := G (9, 2, 13) (List.mem_of_getElem? (i := 19) rfl)
theorem r9_3 {g : GG} (G : GOk g) : g 9 3 = some 14 := G (9, 3, 14) (List.mem_of_getElem? (i := 20) rfl)
theorem r9_4 {g : GG} (G : GOk g) : g 9 4 = some 15 := G (9, 4, 15) (List.mem_of_getElem? (i := 21) rfl)
theorem r9_5 {g : GG} (G : GOk g) : g 9 5 = some 16 := G (9, 5, 16) (List.mem_of_getElem? (i := 22) rfl)
theorem r17_0 {g : GG} (G : GOk g) : g 17 0 = some 18 := G (17, 0, 18) (List.mem_of_getElem? (i := 23) rfl)
theorem r17_1 {g : GG} (G : GOk g) : g 17 1 = some 19 := G (17, 1, 19) (List.mem_of_getElem? (i := 24) rfl)
theorem r17_2 {g : GG} (G : GOk g) : g 17 2 = some 20 := G (17, 2, 20) (List.mem_of_getElem? (i := 25) rfl)
theorem r21_0 {g : GG} (G : GOk g) : g 21 0 = some 22 := G (21, 0, 22) (List.mem_of_getElem? (i := 26) rfl)
theorem r21_1 {g : GG} (G : GOk g) : g 21 1 = some 23 := G (21, 1, 23) (List.mem_of_getElem? (i := 27) rfl)
theorem r22_0 {g : GG} (G : GOk g) : g 22 0 = some 24 := G (22, 0, 24) (List.mem_of_getElem? (i := 28) rfl)
theorem r22_1 {g : GG} (G : GOk g) : g 22 1 = some 25 := G (22, 1, 25) (List.mem_of_getElem? (i := 29) rfl)
theorem r22_2 {g : GG} (G : GOk g) : g 22 2 = some 26 := G (22, 2, 26) (List.mem_of_getElem? (i := 30) rfl)
theorem r22_3 {g : GG} (G : GOk g) : g 22 3 = some 27 := G (22, 3, 27) (List.mem_of_getElem? (i := 31) rfl)
theorem r22_4 {g : GG} (G : GOk g) : g 22 4 = some 28 := G (22, 4, 28) (List.mem_of_getElem? (i := 32) rfl)
theorem r22_5 {g : GG} (G : GOk g) : g 22 5 = some 29 := G (22, 5, 29) (List.mem_of_getElem? (i := 33) rfl)
theorem r30_0 {g : GG} (G : GOk g) : g 30 0 = some 31 := G (30, 0, 31) (List.mem_of_getElem? (i := 34) rfl)
theorem r30_1 {g : GG} (G : GOk g) : g 30 1 = some 32 := G (30, 1, 32) (List.mem_of_getElem? (i := 35) rfl)
theorem r31_0 {g : GG} (G : GOk g) : g 31 0 = some 33 := G (31, 0, 33) (List.mem_of_getElem? (i := 36) rfl)
theorem r31_1 {g : GG} (G : GOk g) : g 31 1 = some 34 := G (31, 1, 34) (List.mem_of_getElem? (i := 37) rfl)
theorem r31_2 {g : GG} (G : GOk g) : g 31 2 = some 35 := G (31, 2, 35) (List.mem_of_getElem? (i := 38) rfl)
theorem r31_3 {g : GG} (G : GOk g) : g 31 3 = some 36 := G (31, 3, 36) (List.mem_of_getElem? (i := 39) rfl)
theorem r31_4 {g : GG} (G : GOk g) : g 31 4 = some 37 := G (31, 4, 37) (List.mem_of_getElem? (i := 40) rfl)
theorem r31_5 {g : GG} (G : GOk g) : g 31 5 = some 38 := G (31, 5, 38) (List.mem_of_getElem? (i := 41) rfl)
theorem r39_0 {g : GG} (G : GOk g) : g 39 0 = some 40 := G (39, 0, 40) (List.mem_of_getElem? (i := 42) rfl)
theorem r41_0 {g : GG} (G : GOk g) : g 41 0 = some 42 := G (41, 0, 42) (List.mem_of_getElem? (i := 43) rfl)
theorem r41_1 {g : GG} (G : GOk g) : g 41 1 = some 43 := G (41, 1, 43) (List.mem_of_getElem? (i := 44) rfl)
theorem r42_0 {g : GG} (G : GOk g) : g 42 0 = some 44 := G (42, 0, 44) (List.mem_of_getElem? (i := 45) rfl)
theorem r42_1 {g : GG} (G : GOk g) : g 42 1 = some 45 := G (42, 1, 45) (List.mem_of_getElem? (i := 46) rfl)
theorem r42_2 {g : GG} (G : GOk g) : g 42 2 = some 46 := G (42, 2, 46) (List.mem_of_getElem? (i := 47) rfl)
theorem r42_3 {g : GG} (G : GOk g) : g 42 3 = some 47 := G (42, 3, 47) (List.mem_of_getElem? (i := 48) rfl)
theorem r42_4 {g : GG} (G : GOk g) : g 42 4 = some 48 := G (42, 4, 48) (List.mem_of_getElem? (i := 49) rfl)
theorem r42_5 {g : GG} (G : GOk g) : g 42 5 = some 49 := G (42, 5, 49) (List.mem_of_getElem? (i := 50) rfl)
theorem r50_0 {g : GG} (G : GOk g) : g 50 0 = some 51 := G (50, 0, 51) (List.mem_of_getElem? (i := 51) rfl)
theorem r50_1 {g : GG} (G : GOk g) : g 50 1 = some 52 := G (50, 1, 52) (List.mem_of_getElem? (i := 52) rfl)
theorem r51_0 {g : GG} (G : GOk g) : g 51 0 = some 53 := G (51, 0, 53) (List.mem_of_getElem? (i := 53) rfl)
theorem r51_1 {g : GG} (G : GOk g) : g 51 1 = some 54 := G (51, 1, 54) (List.mem_of_getElem? (i := 54) rfl)
theorem r51_2 {g : GG} (G : GOk g) : g 51 2 = some 55 := G (51, 2, 55) (List.mem_of_getElem? (i := 55) rfl)
theorem r51_3 {g : GG} (G : GOk g) : g 51 3 = some 56 := G (51, 3, 56) (List.mem_of_getElem? (i := 56) rfl)
theorem r51_4 {g : GG} (G : GOk g) : g 51 4 = some 57 := G (51, 4, 57) (List.mem_of_getElem? (i := 57) rfl)
theorem r51_5 {g : GG} (G : GOk g) : g 51 5 = some 58 := G (51, 5, 58) (List.mem_of_getElem? (i := 58) rfl)
theorem r59_0 {g : GG} (G : GOk g) : g 59 0 = some 60 := G (59, 0, 60) (List.mem_of_getElem? (i := 59) rfl)
theorem r59_1 {g : GG} (G : GOk g) : g 59 1 = some 61 := G (59, 1, 61) (List.mem_of_getElem? (i := 60) rfl)
theorem r60_0 {g : GG} (G : GOk g) : g 60 0 = some 62 := G (60, 0, 62) (List.mem_of_getElem? (i := 61) rfl)
theorem r60_1 {g : GG} (G : GOk g) : g 60 1 = some 63 := G (60, 1, 63) (List.mem_of_getElem? (i := 62) rfl)
theorem r60_2 {g : GG} (G : GOk g) : g 60 2 = some 64 := G (60, 2, 64) (List.mem_of_getElem? (i := 63) rfl)
theorem r60_3 {g : GG} (G : GOk g) : g 60 3 = some 65 := G (60, 3, 65) (List.mem_of_getElem? (i := 64) rfl)
theorem r60_4 {g : GG} (G : GOk g) : g 60 4 = some 66 := G (60, 4, 66) (List.mem_of_getElem? (i := 65) rfl)
theorem r60_5 {g : GG} (G : GOk g) : g 60 5 = some 67 := G (60, 5, 67) (List.mem_of_getElem? (i := 66) rfl)
theorem r68_0 {g : GG} (G : GOk g) : g 68 0 = some 69 := G (68, 0, 69) (List.mem_of_getElem? (i := 67) rfl)
theorem r68_1 {g : GG} (G : GOk g) : g 68 1 = some 70 := G (68, 1, 70) (List.mem_of_getElem? (i := 68) rfl)
theorem r69_0 {g : GG} (G : GOk g) : g 69 0 = some 71 := G (69, 0, 71) (List.mem_of_getElem? (i := 69) rfl)
theorem r69_1 {g : GG} (G : GOk g) : g 69 1 = some 72 := G (69, 1, 72) (List.mem_of_getElem? (i := 70) rfl)
theorem r69_2 {g : GG} (G : GOk g) : g 69 2 = some 73 := G (69, 2, 73) (List.mem_of_getElem? (i := 71) rfl)
theorem r69_3 {g : GG} (G : GOk g) : g 69 3 = some 74 := G (69, 3, 74) (List.mem_of_getElem? (i := 72) rfl)
theorem r69_4 {g : GG} (G : GOk g) : g 69 4 = some 75 := G (69, 4, 75) (List.mem_of_getElem? (i := 73) rfl)
theorem r69_5 {g : GG} (G : GOk g) : g 69 5 = some 76 := G (69, 5, 76) (List.mem_of_getElem? (i := 74) rfl)
theorem r77_0 {g : GG} (G : GOk g) : g 77 0 = some 78 := G (77, 0, 78) (List.mem_of_getElem? (i := 75) rfl)
theorem r77_1 {g : GG} (G : GOk g) : g 77 1 = some 79 := G (77, 1, 79) (List.mem_of_getElem? (i := 76) rfl)
theorem r78_0 {g : GG} (G : GOk g) : g 78 0 = some 80 := G (78, 0, 80) (List.mem_of_getElem? (i := 77) rfl)
theorem r78_1 {g : GG} (G : GOk g) : g 78 1 = some 81 := G (78, 1, 81) (List.mem_of_getElem? (i := 78) rfl)
theorem r78_2 {g : GG} (G : GOk g) : g 78 2 = some 82 := G (78, 2, 82) (List.mem_of_getElem? (i := 79) rfl)
theorem r78_3 {g : GG} (G : GOk g) : g 78 3 = some 83 := G (78, 3, 83) (List.mem_of_getElem? (i := 80) rfl)
theorem r78_4 {g : GG} (G : GOk g) : g 78 4 = some 84 := G (78, 4, 84) (List.mem_of_getElem? (i := 81) rfl)
theorem r78_5 {g : GG} (G : GOk g) : g 78 5 = some 85 := G (78, 5, 85) (List.mem_of_getElem? (i := 82) rfl)
theorem r86_0 {g : GG} (G : GOk g) : g 86 0 = some 87 := G (86, 0, 87) (List.mem_of_getElem? (i := 83) rfl)
theorem r86_1 {g : GG} (G : GOk g) : g 86 1 = some 88 := G (86, 1, 88) (List.mem_of_getElem? (i := 84) rfl)
theorem r87_0 {g : GG} (G : GOk g) : g 87 0 = some 89 := G (87, 0, 89) (List.mem_of_getElem? (i := 85) rfl)
theorem r87_1 {g : GG} (G : GOk g) : g 87 1 = some 90 := G (87, 1, 90) (List.mem_of_getElem? (i := 86) rfl)
theorem r87_2 {g : GG} (G : GOk g) : g 87 2 = some 91 := G (87, 2, 91) (List.mem_of_getElem? (i := 87) rfl)
theorem r87_3 {g : GG} (G : GOk g) : g 87 3 = some 92 := G (87, 3, 92) (List.mem_of_getElem? (i := 88) rfl)
theorem r87_4 {g : GG} (G : GOk g) : g 87 4 = some 93 := G (87, 4, 93) (List.mem_of_getElem? (i := 89) rfl)
theorem r87_5 {g : GG} (G : GOk g) : g 87 5 = some 94 := G (87, 5, 94) (List.mem_of_getElem? (i := 90) rfl)
theorem r95_0 {g : GG} (G : GOk g) : g 95 0 = some 96 := G (95, 0, 96) (List.mem_of_getElem? (i := 91) rfl)
theorem r95_1 {g : GG} (G : GOk g) : g 95 1 = some 97 := G (95, 1, 97) (List.mem_of_getElem? (i := 92) rfl)
theorem r96_0 {g : GG} (G : GOk g) : g 96 0 = some 98 := G (96, 0, 98) (List.mem_of_getElem? (i := 93) rfl)
theorem r96_1 {g : GG} (G : GOk g) : g 96 1 = some 99 := G (96, 1, 99) (List.mem_of_getElem? (i := 94) rfl)
theorem r96_2 {g : GG} (G : GOk g) : g 96 2 = some 100 := G (96, 2, 100) (List.mem_of_getElem? (i := 95) rfl)
theorem r96_3 {g : GG} (G : GOk g) : g 96 3 = some 101 := G (96, 3, 101) (List.mem_of_getElem? (i := 96) rfl)
theorem r96_4 {g : GG} (G : GOk g) : g 96 4 = some 102 := G (96, 4, 102) (List.mem_of_getElem? (i := 97) rfl)
theorem r96_5 {g : GG} (G : GOk g) : g 96 5 = some 103 := G (96, 5, 103) (List.mem_of_getElem? (i := 98) rfl)
theorem r104_0 {g : GG} (G : GOk g) : g 104 0 = some 105 := G (104, 0, 105) (List.mem_of_getElem? (i := 99) rfl)
theorem r104_1 {g : GG} (G : GOk g) : g 104 1 = some 106 := G (104, 1, 106) (List.mem_of_getElem? (i := 100) rfl)
theorem r105_0 {g : GG} (G : GOk g) : g 105 0 = some 107 := G (105, 0, 107) (List.mem_of_getElem? (i := 101) rfl)
theorem r105_1 {g : GG} (G : GOk g) : g 105 1 = some 108 := G (105, 1, 108) (List.mem_of_getElem? (i := 102) rfl)
theorem r105_2 {g : GG} (G : GOk g) : g 105 2 = some 109 := G (105, 2, 109) (List.mem_of_getElem? (i := 103) rfl)
theorem r105_3 {g : GG} (G : GOk g) : g 105 3 = some 110 := G (105, 3, 110) (List.mem_of_getElem? (i := 104) rfl)
theorem r105_4 {g : GG} (G : GOk g) : g 105 4 = some 111 := G (105, 4, 111) (List.mem_of_getElem? (i := 105) rfl)
theorem r105_5 {g : GG} (G : GOk g) : g 105 5 = some 112 := G (105, 5, 112) (List.mem_of_getElem? (i := 106) rfl)
theorem r113_0 {g : GG} (G : GOk g) : g 113 0 = some 114 := G (113, 0, 114) (List.mem_of_getElem? (i := 107) rfl)
theorem r114_0 {g : GG} (G : GOk g) : g 114 0 = some 115 := G (114, 0, 115) (List.mem_of_getElem? (i := 108) rfl)
theorem r114_1 {g : GG} (G : GOk g) : g 114 1 = some 124 := G (114, 1, 124) (List.mem_of_getElem? (i := 109) rfl)
theorem r115_0 {g : GG} (G : GOk g) : g 115 0 = some 116 := G (115, 0, 116) (List.mem_of_getElem? (i := 110) rfl)
theorem r115_1 {g : GG} (G : GOk g) : g 115 1 = some 117 := G (115, 1, 117) (List.mem_of_getElem? (i := 111) rfl)
theorem r116_0 {g : GG} (G : GOk g) : g 116 0 = some 118 := G (116, 0, 118) (List.mem_of_getElem? (i := 112) rfl)
theorem r116_1 {g : GG} (G : GOk g) : g 116 1 = some 119 := G (116, 1, 119) (List.mem_of_getElem? (i := 113) rfl)
theorem r116_2 {g : GG} (G : GOk g) : g 116 2 = some 120 := G (116, 2, 120) (List.mem_of_getElem? (i := 114) rfl)
theorem r116_3 {g : GG} (G : GOk g) : g 116 3 = some 121 := G (116, 3, 121) (List.mem_of_getElem? (i := 115) rfl)
theorem r116_4 {g : GG} (G : GOk g) : g 116 4 = some 122 := G (116, 4, 122) (List.mem_of_getElem? (i := 116) rfl)
theorem r116_5 {g : GG} (G : GOk g) : g 116 5 = some 123 := G (116, 5, 123) (List.mem_of_getElem? (i := 117) rfl)
theorem r124_0 {g : GG} (G : GOk g) : g 124 0 = some 125 := G (124, 0, 125) (List.mem_of_getElem? (i := 118) rfl)
theorem r124_1 {g : GG} (G : GOk g) : g 124 1 = some 126 := G (124, 1, 126) (List.mem_of_getElem? (i := 119) rfl)
theorem r125_0 {g : GG} (G : GOk g) : g 125 0 = some 127 := G (125, 0, 127) (List.mem_of_getElem? (i := 120) rfl)
theorem r125_1 {g : GG} (G : GOk g) : g 125 1 = some 128 := G (125, 1, 128) (List.mem_of_getElem? (i := 121) rfl)
theorem r125_2 {g : GG} (G : GOk g) : g 125 2 = some 129 := G (125, 2, 129) (List.mem_of_getElem? (i := 122) rfl)
theorem r125_3 {g : GG} (G : GOk g) : g 125 3 = some 130 := G (125, 3, 130) (List.mem_of_getElem? (i := 123) rfl)
theorem r125_4 {g : GG} (G : GOk g) : g 125 4 = some 131 := G (125, 4, 131) (List.mem_of_getElem? (i := 124) rfl)
theorem r125_5 {g : GG} (G : GOk g) : g 125 5 = some 132 := G (125, 5, 132) (List.mem_of_getElem? (i := 125) rfl)
theorem r133_0 {g : GG} (G : GOk g) : g 133 0 = some 134 := G (133, 0, 134) (List.mem_of_getElem? (i := 126) rfl)
theorem r133_1 {g : GG} (G : GOk g) : g 133 1 = some 135 := G (133, 1, 135) (List.mem_of_getElem? (i := 127) rfl)
theorem r133_2 {g : GG} (G : GOk g) : g 133 2 = some 136 := G (133, 2, 136) (List.mem_of_getElem? (i := 128) rfl)
theorem r137_1 {g : GG} (G : GOk g) : g 137 1 = some 138 := G (137, 1, 138) (List.mem_of_getElem? (i := 129) rfl)
theorem r137_6 {g : GG} (G : GOk g) : g 137 6 = some 139 := G (137, 6, 139) (List.mem_of_getElem? (i := 130) rfl)
theorem r137_7 {g : GG} (G : GOk g) : g 137 7 = some 140 := G (137, 7, 140) (List.mem_of_getElem? (i := 131) rfl)
theorem r137_8 {g : GG} (G : GOk g) : g 137 8 = some 141 := G (137, 8, 141) (List.mem_of_getElem? (i := 132) rfl)
theorem r137_9 {g : GG} (G : GOk g) : g 137 9 = some 142 := G (137, 9, 142) (List.mem_of_getElem? (i := 133) rfl)
theorem r137_10 {g : GG} (G : GOk g) : g 137 10 = some 143 := G (137, 10, 143) (List.mem_of_getElem? (i := 134) rfl)
theorem r137_11 {g : GG} (G : GOk g) : g 137 11 = some 144 := G (137, 11, 144) (List.mem_of_getElem? (i := 135) rfl)
theorem r137_13 {g : GG} (G : GOk g) : g 137 13 = some 145 := G (137, 13, 145) (List.mem_of_getElem? (i := 136) rfl)
theorem r137_14 {g : GG} (G : GOk g) : g 137 14 = some 146 := G (137, 14, 146) (List.mem_of_getElem? (i := 137) rfl)
theorem r137_15 {g : GG} (G : GOk g) : g 137 15 = some 147 := G (137, 15, 147) (List.mem_of_getElem? (i := 138) rfl)
theorem r137_16 {g : GG} (G : GOk g) : g 137 16 = some 148 := G (137, 16, 148) (List.mem_of_getElem? (i := 139) rfl)
theorem r137_17 {g : GG} (G : GOk g) : g 137 17 = some 149 := G (137, 17, 149) (List.mem_of_getElem? (i := 140) rfl)
theorem r137_20 {g : GG} (G : GOk g) : g 137 20 = some 150 := G (137, 20, 150) (List.mem_of_getElem? (i := 141) rfl)
theorem r137_22 {g : GG} (G : GOk g) : g 137 22 = some 151 := G (137, 22, 151) (List.mem_of_getElem? (i := 142) rfl)
theorem r137_24 {g : GG} (G : GOk g) : g 137 24 = some 152 := G (137, 24, 152) (List.mem_of_getElem? (i := 143) rfl)
set_option maxHeartbeats 1000000 in
theorem sp_isBetween {S : Scr} {d : Nat} {f : FF} {g : GG} {n : Nat} (x lo hi : Int32) : Wp S d 22 0 [some (.int x), some (.int lo), some (.int hi)] [] n f g (Is (some (.int (bI (decide (lo ≤ x ∧ x ≤ hi))))) n f g) := by
  refine w_iload_n k22_0 rfl ?_
  refine w_iload_n k22_1 rfl ?_
  refine w_icmp_lt k22_2 (fun h2 => ?_) (fun h2 => ?_)
  ·
    refine w_iconst k22_14 ?_
    refine w_iret k22_15 mt22 (.boolean) rfl (rfl) ?_
    refine ⟨?_, rfl, rfl, rfl⟩
    simp [bI, ← Int32.not_lt, *]
  ·
    refine w_iload_n k22_5 rfl ?_
    refine w_iload_n k22_6 rfl ?_
    refine w_icmp_gt k22_7 (fun h7 => ?_) (fun h7 => ?_)
    ·
      refine w_iconst k22_14 ?_
      refine w_iret k22_15 mt22 (.boolean) rfl (rfl) ?_
      refine ⟨?_, rfl, rfl, rfl⟩
      simp [bI, ← Int32.not_lt, *]
    ·
      refine w_iconst k22_10 ?_
      refine w_goto k22_11 ?_
      refine w_iret k22_15 mt22 (.boolean) rfl (rfl) ?_
      refine ⟨?_, rfl, rfl, rfl⟩
      simp [bI, ← Int32.not_lt, *]
set_option maxHeartbeats 1000000 in
theorem sp_isIn {S : Scr} {d : Nat} {f : FF} {g : GG} {n : Nat} {B c : Nat} (hB : B < 2 ^ 31) (hc : c < 32) : Wp S d 34 0 [some (.int (nI B)), some (.int (nI c))] [] n f g (Is (some (.int (bI (B.testBit c)))) n f g) := by
  refine w_iload_n k34_0 rfl ?_
  refine w_iload_n k34_1 rfl ?_
  refine w_ishr k34_2 ?_
  rw [shr_n hB hc]
  refine w_iconst k34_3 ?_
  refine w_iand k34_4 ?_
  rw [and_n (k := 1) (Nat.lt_of_le_of_lt (Nat.div_le_self _ _) (by omega)) 1 (by decide)]
  refine w_iconst k34_5 ?_
  refine w_icmp_ne k34_6 (fun h6 => ?_) (fun h6 => ?_)
  ·
    refine w_iconst k34_13 ?_
    refine w_iret k34_14 mt34 (.boolean) rfl (rfl) ?_
    refine ⟨?_, rfl, rfl, rfl⟩
    have e : (nI (B / 2 ^ c % 2 ^ 1) = 1) ↔ B.testBit c = true := by
      rw [show (1 : Int32) = nI 1 from rfl, nI_eq (by omega) (by omega), Nat.testBit_eq_decide_div_mod_eq]
      simp
    simp [bI, ← e, *]
  ·
    refine w_iconst k34_9 ?_
    refine w_goto k34_10 ?_
    refine w_iret k34_14 mt34 (.boolean) rfl (rfl) ?_
    refine ⟨?_, rfl, rfl, rfl⟩
    have e : (nI (B / 2 ^ c % 2 ^ 1) = 1) ↔ B.testBit c = true := by
      rw [show (1 : Int32) = nI 1 from rfl, nI_eq (by omega) (by omega), Nat.testBit_eq_decide_div_mod_eq]
      simp
    simp [bI, ← e, *]
end
section
/-! SPECS, 2: rows as numbers, arithmetic -/
def dg (r i : Nat) : Nat := r / 4 ^ i % 4
def rlA (r : Nat) : Nat → Nat → Nat
  | 0, j => j
  | t + 1, j => if r / 4 ^ j = 0 then j else rlA r t (j + 1)
def rlen (r : Nat) : Nat := rlA r 8 0
def allD (r : Nat) : Nat → Bool
  | 0 => true
  | i + 1 => decide (dg r i ≠ 0) && allD r i
def isRowI (x : Int32) : Bool := decide (1 ≤ x ∧ x ≤ 65535) && allD x.toNatClampNeg (rlen x.toNatClampNeg)
def dropA (r L : Nat) : Nat → Nat → Nat → Nat
  | 0, _, a => a
  | t + 1, k, a => dropA r L t (k + 1) (if k % 3 = 2 then a else a * 4 + dg r (L - 1 - k))
def sw (d : Nat) : Nat := if d = 1 then 2 else if d = 2 then 1 else d
def deafA (r : Nat) : Nat → Nat → Nat
  | 0, a => a
  | s + 1, a => deafA r s (a * 4 + sw (dg r s))
/-- what a kind knits of a row -/
def kn (k r : Nat) : Nat := if k = 1 then dropA r (rlen r) (rlen r) 0 0 else if k = 2 then (if rlen r < 8 then r * 4 + 2 else r) else if k = 3 then deafA r (rlen r) 0 else if k = 4 then (if r = 0 then 0 else r / 4 * 4 + 3) else r
def wof (r : Nat) : Nat := if rlen r = 0 then 0 else r - dg r (rlen r - 1) * 4 ^ (rlen r - 1)
/-- a row, the last stitch first -/
def vr : List Nat → Nat
  | [] => 0
  | d :: l => d + 4 * vr l
def RLs (l : List Nat) : Prop := l.length ≤ 8 ∧ ∀ d ∈ l, 1 ≤ d ∧ d ≤ 3
def RowOk (r : Nat) : Prop := ∃ l, RLs l ∧ r = vr l
theorem RLs.tail {d : Nat} {l : List Nat} (h : RLs (d :: l)) : RLs l := ⟨by have := h.1; simp at this; omega, fun x hx => h.2 x (List.mem_cons_of_mem _ hx)⟩
theorem vr_div {l : List Nat} (h : RLs l) (i : Nat) : vr l / 4 ^ i = vr (l.drop i) := by
  induction i generalizing l with
  | zero => simp
  | succ i ih =>
    cases l with
    | nil => simp [vr]
    | cons d l =>
      have hd := h.2 d List.mem_cons_self
      rw [Nat.pow_succ, Nat.mul_comm, ← Nat.div_div_eq_div_mul, List.drop_succ_cons, ← ih h.tail]
      congr 1
      simp only [vr]
      omega
theorem vr_pos {l : List Nat} (h : RLs l) (hn : l ≠ []) : 0 < vr l := by
  cases l with
  | nil => exact absurd rfl hn
  | cons d l => have := h.2 d List.mem_cons_self; simp only [vr]; omega
theorem vr_lt {l : List Nat} (h : ∀ d ∈ l, 1 ≤ d ∧ d ≤ 3) : vr l < 4 ^ l.length := by
  induction l with
  | nil => simp [vr]
  | cons d l ih =>
    have h1 := h d List.mem_cons_self
    have h2 := ih (fun x hx => h x (List.mem_cons_of_mem _ hx))
    simp only [vr, List.length_cons, Nat.pow_succ]
    omega
theorem vr_lt8 {l : List Nat} (h : RLs l) : vr l < 65536 := Nat.lt_of_lt_of_le (vr_lt h.2) (Nat.le_trans (Nat.pow_le_pow_right (by omega) h.1) (show (4 : Nat) ^ 8 ≤ 65536 by decide))
theorem RowOk.lt {r : Nat} (h : RowOk r) : r < 65536 := by obtain ⟨l, h1, rfl⟩ := h; exact vr_lt8 h1
theorem RLs.drop {l : List Nat} (h : RLs l) (i : Nat) : RLs (l.drop i) := ⟨by rw [List.length_drop]; have := h.1; omega, fun x hx => h.2 x (List.mem_of_mem_drop hx)⟩
theorem rlA_vr {l : List Nat} (h : RLs l) : ∀ t j, l.length ≤ t + j → j ≤ l.length → rlA (vr l) t j = l.length := by
  intro t
  induction t with
  | zero => intro j h1 h2; simp only [rlA]; omega
  | succ t ih =>
    intro j h1 h2
    simp only [rlA]
    rw [vr_div h]
    by_cases hj : j = l.length
    · rw [if_pos (by rw [List.drop_eq_nil_of_le (by omega)]; rfl)]; exact hj
    · have hne : l.drop j ≠ [] := by intro hh; have := congrArg List.length hh; rw [List.length_drop] at this; simp at this; omega
      rw [if_neg (by have := vr_pos (h.drop j) hne; omega)]
      exact ih (j + 1) (by omega) (by omega)
theorem rlen_vr {l : List Nat} (h : RLs l) : rlen (vr l) = l.length := rlA_vr h 8 0 (by have := h.1; omega) (by omega)
theorem dg_vr {l : List Nat} (h : RLs l) {i : Nat} (hi : i < l.length) : dg (vr l) i = l[i] := by
  unfold dg
  rw [vr_div h, List.drop_eq_getElem_cons hi]
  have := h.2 l[i] (List.getElem_mem hi)
  simp only [vr]
  omega
theorem rlA_le {r : Nat} : ∀ t j, j ≤ rlA r t j ∧ rlA r t j ≤ t + j := by
  intro t
  induction t with
  | zero => intro j; simp [rlA]
  | succ t ih =>
    intro j
    simp only [rlA]
    split
    · omega
    · have := ih (j + 1); omega
theorem rlen_le (r : Nat) : rlen r ≤ 8 := (rlA_le 8 0).2
theorem rlen_lt {r : Nat} (hr : r < 65536) : r < 4 ^ rlen r := by
  have key : ∀ t j, t + j = 8 → r / 4 ^ rlA r t j = 0 := by
    intro t
    induction t with
    | zero => intro j hj; simp only [rlA]; rw [show j = 8 by omega]; exact Nat.div_eq_of_lt (by omega)
    | succ t ih =>
      intro j hj
      simp only [rlA]
      split
      · assumption
      · exact ih (j + 1) (by omega)
  have h2 := key 8 0 rfl
  exact Nat.lt_of_div_eq_zero (Nat.pow_pos (by omega)) h2
theorem dg_lt (r i : Nat) : dg r i < 4 := Nat.mod_lt _ (by omega)
theorem dropA_lt {r L : Nat} : ∀ t k a, a < 4 ^ k → dropA r L t k a < 4 ^ (k + t) := by
  intro t
  induction t with
  | zero => intro k a h; exact h
  | succ t ih =>
    intro k a h
    simp only [dropA]
    rw [show k + (t + 1) = (k + 1) + t by omega]
    refine ih (k + 1) _ ?_
    have := dg_lt r (L - 1 - k)
    rw [Nat.pow_succ]
    split <;> omega
theorem sw_lt (d : Nat) (h : d < 4) : sw d < 4 := by unfold sw; split; omega; split <;> omega
theorem p4_le {k : Nat} (h : k ≤ 8) : 4 ^ k ≤ 65536 := Nat.le_trans (Nat.pow_le_pow_right (by omega) h) (show (4 : Nat) ^ 8 ≤ 65536 by decide)
theorem nI_sub {a b : Nat} (h : b ≤ a) : nI a - nI b = nI (a - b) := pk_sub h
set_option maxHeartbeats 1000000 in
theorem lp_length {S : Scr} {d : Nat} {f : FF} {g : GG} {n : Nat} {r : Nat} (hr : r < 2 ^ 31) : ∀ (t : Nat) (j : Nat), (t + j = 8) → Wp S d 86 2 [some (.int (nI r)), some (.int (nI j))] [] n f g (Is (some (.int (nI (rlA r t j)))) n f g) := by
  intro t
  induction t with
  | zero =>
    intro j e0
    refine w_iload_n k86_2 rfl ?_
    refine w_bipush k86_3 ?_
    refine w_icmp_ge k86_5 (fun h5 => ?_) (fun h5 => absurd (nI_le (a := 8) (by omega) (by omega)) h5)
    refine w_iload_n k86_22 rfl ?_
    refine w_iret k86_23 mt86 (.int) rfl (rfl) ?_
    rw [show rlA r 0 j = j from rfl]
    exact ⟨rfl, rfl, rfl, rfl⟩
  | succ t ih =>
    intro j e0
    refine w_iload_n k86_2 rfl ?_
    refine w_bipush k86_3 ?_
    refine w_icmp_ge k86_5 (fun h5 => absurd h5 ((nI_ge (b := 8) (by omega) (by omega)))) (fun h5 => ?_)
    refine w_iload_n k86_8 rfl ?_
    refine w_iconst k86_9 ?_
    refine w_iload_n k86_10 rfl ?_
    refine w_imul k86_11 ?_
    refine w_top (nI (2 * j)) (pk_mul 2 j) ?_
    refine w_ishr k86_12 ?_
    rw [shr_n hr (by omega), pow4]
    refine w_if_le k86_13 (fun h13 => ?_) (fun h13 => ?_)
    ·
      have hz : r / 4 ^ j = 0 := by
        have := (nI_leI (a := r / 4 ^ j) (b := 0) (Nat.lt_of_le_of_lt (Nat.div_le_self _ _) hr) (by omega)).mp h13
        exact Nat.le_zero.mp this
      refine w_iload_n k86_22 rfl ?_
      refine w_iret k86_23 mt86 (.int) rfl (rfl) ?_
      rw [show rlA r (t + 1) j = j from if_pos hz]
      exact ⟨rfl, rfl, rfl, rfl⟩
    ·
      have hz : ¬ r / 4 ^ j = 0 := fun hh => h13 (by rw [hh]; decide)
      refine w_iinc k86_16 rfl (ls' := [_, _]) rfl ?_
      refine w_goto k86_19 ?_
      rw [nI_1]
      have := ih (j + 1) (by omega)
      rw [show rlA r (t + 1) j = rlA r t (j + 1) from if_neg hz]
      exact this
set_option maxHeartbeats 1000000 in
theorem sp_length {S : Scr} {d : Nat} {f : FF} {g : GG} {n : Nat} {r : Nat} (hr : r < 2 ^ 31) : Wp S d 86 0 [some (.int (nI r)), none] [] n f g (Is (some (.int (nI (rlen r)))) n f g) := by
  refine w_iconst k86_0 ?_
  refine w_istore_n k86_1 (ls' := [_, _]) rfl ?_
  exact lp_length hr 8 0 rfl
set_option maxHeartbeats 1000000 in
theorem sp_stitch {S : Scr} {d : Nat} {f : FF} {g : GG} {n : Nat} {r i : Nat} (hr : r < 2 ^ 31) (hi : i < 16) : Wp S d 87 0 [some (.int (nI r)), some (.int (nI i))] [] n f g (Is (some (.int (nI (dg r i)))) n f g) := by
  refine w_iload_n k87_0 rfl ?_
  refine w_iconst k87_1 ?_
  refine w_iload_n k87_2 rfl ?_
  refine w_imul k87_3 ?_
  refine w_top (nI (2 * i)) (pk_mul 2 i) ?_
  refine w_ishr k87_4 ?_
  rw [shr_n hr (by omega), pow4]
  refine w_iconst k87_5 ?_
  refine w_iand k87_6 ?_
  rw [and_n (k := 2) (Nat.lt_of_le_of_lt (Nat.div_le_self _ _) (by omega)) 3 (by decide)]
  refine w_iret k87_7 mt87 (.int) rfl (rfl) ?_
  exact ⟨rfl, rfl, rfl, rfl⟩
set_option maxHeartbeats 1000000 in
theorem sp_with {S : Scr} {d : Nat} {f : FF} {g : GG} {n : Nat} {r i : Nat} : Wp S d 27 0 [some (.int (nI r)), some (.int (nI i))] [] n f g (Is (some (.int (nI (r * 4 + i)))) n f g) := by
  refine w_iload_n k27_0 rfl ?_
  refine w_iconst k27_1 ?_
  refine w_imul k27_2 ?_
  refine w_top (nI (r * 4)) (pk_mul r 4) ?_
  refine w_iload_n k27_3 rfl ?_
  refine w_iadd k27_4 ?_
  rw [nI_add]
  refine w_iret k27_5 mt27 (.int) rfl (rfl) ?_
  exact ⟨rfl, rfl, rfl, rfl⟩
set_option maxHeartbeats 1000000 in
theorem lp_isRow {S : Scr} {d : Nat} {f : FF} {g : GG} {n : Nat} {r : Nat} (hr : r < 2 ^ 31) : ∀ (t : Nat) , (t ≤ 8) → Wp S (d + 1) 88 19 [some (.int (nI r)), some (.int (nI t + (-1)))] [] n f g (Is (some (.int (bI (allD r t)))) n f g) := by
  intro t
  induction t with
  | zero =>
    intro  e0
    refine w_iload_n k88_19 rfl ?_
    refine w_if_lt k88_20 (fun h20 => ?_) (fun h20 => absurd ((by decide : (nI 0 + (-1) : Int32) < 0)) h20)
    refine w_iconst k88_39 ?_
    refine w_iret k88_40 mt88 (.boolean) rfl (rfl) ?_
    exact ⟨rfl, rfl, rfl, rfl⟩
  | succ t ih =>
    intro  e0
    rw [pk_m1]
    refine w_iload_n k88_19 rfl ?_
    refine w_if_lt k88_20 (fun h20 => absurd h20 (nI_pos (by omega))) (fun h20 => ?_)
    refine w_iload_n k88_23 rfl ?_
    refine w_iload_n k88_24 rfl ?_
    refine w_sI k88_25 (by decide) mt87 [_, _] rfl rfl rfl (sp_stitch hr (by omega)) ?_
    refine w_if_ne k88_28 (fun h28 => ?_) (fun h28 => ?_)
    ·
      have hz : dg r t ≠ 0 := fun hh => h28 (by rw [hh]; rfl)
      refine w_iinc k88_33 rfl (ls' := [_, _]) rfl ?_
      refine w_goto k88_36 ?_
      have := ih (by omega)
      rw [show allD r (t + 1) = allD r t from by simp [allD, hz]]
      exact this
    ·
      have hz : dg r t = 0 := by
        have := dg_lt r t
        exact (nI_eq (b := 0) (by omega) (by omega)).mp h28
      refine w_iconst k88_31 ?_
      refine w_iret k88_32 mt88 (.boolean) rfl (rfl) ?_
      rw [show allD r (t + 1) = false from by simp [allD, hz]]
      exact ⟨rfl, rfl, rfl, rfl⟩
theorem int_row {x : Int32} (h : 1 ≤ x ∧ x ≤ 65535) : ∃ r, 1 ≤ r ∧ r ≤ 65535 ∧ x = nI r := by
  have h0 : ¬ x < 0 := fun hh => absurd (Int32.lt_of_le_of_lt h.1 hh) (by decide)
  obtain ⟨j, hj, rfl⟩ := nI_of2 (M := 65535) (n := 65535) (by decide) h0 h.2
  have := (nI_leI (a := 1) (b := j) (by omega) (by omega)).mp h.1
  exact ⟨j, this, hj, rfl⟩
set_option maxHeartbeats 1000000 in
theorem sp_isRow {S : Scr} {d : Nat} {f : FF} {g : GG} {n : Nat} (x : Int32) : Wp S (d + 1) 88 0 [some (.int x), none] [] n f g (Is (some (.int (bI (isRowI x)))) n f g) := by
  refine w_iload_n k88_0 rfl ?_
  refine w_iconst k88_1 ?_
  refine w_ldc k88_2 ?_
  refine w_sI k88_4 (by decide) mt22 [_, _, _] rfl rfl rfl (sp_isBetween _ _ _) ?_
  refine w_if_ne k88_7 (fun h7 => ?_) (fun h7 => ?_)
  ·
    have hx : 1 ≤ x ∧ x ≤ 65535 := by
      by_cases hh : 1 ≤ x ∧ x ≤ 65535
      · exact hh
      · exact absurd (by simp [bI, hh]) h7
    obtain ⟨r, hr1, hr2, rfl⟩ := int_row hx
    refine w_iload_n k88_12 rfl ?_
    refine w_sI k88_13 (by decide) mt86 [_] rfl rfl rfl (sp_length (by omega)) ?_
    refine w_iconst k88_16 ?_
    refine w_isub k88_17 ?_
    refine w_top (nI (rlen r) + (-1)) (by rw [Int32.sub_eq_add_neg]) ?_
    refine w_istore_n k88_18 (ls' := [_, _]) rfl ?_
    have e : isRowI (nI r) = allD r (rlen r) := by unfold isRowI; rw [nI_clamp (by omega), decide_eq_true hx, Bool.true_and]
    rw [e]
    exact lp_isRow (by omega) _ (rlen_le r)
  ·
    have hx : ¬ (1 ≤ x ∧ x ≤ 65535) := fun hh => by simp [bI, hh] at h7
    refine w_iconst k88_10 ?_
    refine w_iret k88_11 mt88 (.boolean) rfl (rfl) ?_
    rw [show isRowI x = false from by unfold isRowI; rw [decide_eq_false hx, Bool.false_and]]
    exact ⟨rfl, rfl, rfl, rfl⟩
def isRow0 (x : Int32) : Bool := decide (x = 0) || isRowI x
theorem nar_b (b : Bool) : narrow .boolean (.int (bI b)) = .int (bI b) := by cases b <;> rfl
theorem bI_0 {b : Bool} : bI b = 0 ↔ b = false := by cases b <;> simp [bI]
theorem bI_n0 {b : Bool} : ¬ bI b = 0 ↔ b = true := by cases b <;> simp [bI]
set_option maxHeartbeats 1000000 in
theorem sp_isRowOrEmpty {S : Scr} {d : Nat} {f : FF} {g : GG} {n : Nat} (x : Int32) : Wp S (d + 2) 89 0 [some (.int x)] [] n f g (Is (some (.int (bI (isRow0 x)))) n f g) := by
  refine w_iload_n k89_0 rfl ?_
  refine w_if_eq k89_1 (fun h1 => ?_) (fun h1 => ?_)
  ·
    refine w_iconst k89_11 ?_
    refine w_goto k89_12 ?_
    refine w_iret k89_16 mt89 (.boolean) rfl (rfl) ?_
    refine ⟨?_, rfl, rfl, rfl⟩
    first
      | (rw [bI_0] at h8; simp [isRow0, bI, *]; done)
      | (rw [bI_n0] at h8; simp [isRow0, bI, *]; done)
      | (simp [isRow0, bI, *]; done)
  ·
    refine w_iload_n k89_4 rfl ?_
    refine w_sI k89_5 (by decide) mt88 [_] rfl rfl rfl (sp_isRow _) ?_
    refine w_if_eq k89_8 (fun h8 => ?_) (fun h8 => ?_)
    ·
      refine w_iconst k89_15 ?_
      refine w_iret k89_16 mt89 (.boolean) rfl (rfl) ?_
      refine ⟨?_, rfl, rfl, rfl⟩
      first
        | (rw [bI_0] at h8; simp [isRow0, bI, *]; done)
        | (rw [bI_n0] at h8; simp [isRow0, bI, *]; done)
        | (simp [isRow0, bI, *]; done)
    ·
      refine w_iconst k89_11 ?_
      refine w_goto k89_12 ?_
      refine w_iret k89_16 mt89 (.boolean) rfl (rfl) ?_
      refine ⟨?_, rfl, rfl, rfl⟩
      first
        | (rw [bI_0] at h8; simp [isRow0, bI, *]; done)
        | (rw [bI_n0] at h8; simp [isRow0, bI, *]; done)
        | (simp [isRow0, bI, *]; done)
end
section
/-! SPECS, 3: rows knitted -/
set_option maxHeartbeats 1000000 in
theorem sp_withoutFirst {S : Scr} {d : Nat} {f : FF} {g : GG} {n : Nat} {r : Nat} (hr : r < 65536) : Wp S (d + 1) 169 0 [some (.int (nI r)), none] [] n f g (Is (some (.int (nI (wof r)))) n f g) := by
  refine w_iload_n k169_0 rfl ?_
  refine w_sI k169_1 (by decide) mt86 [_] rfl rfl rfl (sp_length (by omega)) ?_
  refine w_istore_n k169_4 (ls' := [_, _]) rfl ?_
  refine w_iload_n k169_5 rfl ?_
  refine w_if_ne k169_6 (fun h6 => ?_) (fun h6 => ?_)
  ·
    have hz : rlen r ≠ 0 := fun hh => h6 (by rw [hh]; rfl)
    have h8 := rlen_le r
    refine w_iload_n k169_13 rfl ?_
    refine w_iload_n k169_14 rfl ?_
    refine w_iload_n k169_15 rfl ?_
    refine w_iconst k169_16 ?_
    refine w_isub k169_17 ?_
    refine w_top (nI (rlen r - 1)) (pk_sub (b := 1) (by omega)) ?_
    refine w_sI k169_18 (by decide) mt87 [_, _] rfl rfl rfl (sp_stitch (by omega) (by omega)) ?_
    refine w_iconst k169_21 ?_
    refine w_iload_n k169_22 rfl ?_
    refine w_iconst k169_23 ?_
    refine w_isub k169_24 ?_
    refine w_top (nI (rlen r - 1)) (pk_sub (b := 1) (by omega)) ?_
    refine w_imul k169_25 ?_
    refine w_top (nI (2 * (rlen r - 1))) (pk_mul 2 _) ?_
    have hle : dg r (rlen r - 1) * 4 ^ (rlen r - 1) ≤ r := Nat.le_trans (Nat.mul_le_mul_right _ (Nat.mod_le _ _)) (Nat.div_mul_le_self _ _)
    refine w_ishl k169_26 ?_
    refine w_top (nI (dg r (rlen r - 1) * 4 ^ (rlen r - 1))) (by rw [shl_n (by omega) (by rw [pow4]; omega), pow4]) ?_
    refine w_isub k169_27 ?_
    refine w_top (nI (wof r)) (by rw [pk_sub hle, wof, if_neg hz]) ?_
    refine w_iret k169_28 mt169 (.int) rfl (rfl) ?_
    first
      | exact ⟨rfl, rfl, rfl, rfl⟩
      | (rw [show wof r = 0 from if_pos hz]; exact ⟨rfl, rfl, rfl, rfl⟩)
  ·
    have hz : rlen r = 0 := by
      have := rlen_le r
      exact (nI_eq (b := 0) (by omega) (by omega)).mp h6
    refine w_iconst k169_9 ?_
    refine w_goto k169_10 ?_
    refine w_iret k169_28 mt169 (.int) rfl (rfl) ?_
    first
      | exact ⟨rfl, rfl, rfl, rfl⟩
      | (rw [show wof r = 0 from if_pos hz]; exact ⟨rfl, rfl, rfl, rfl⟩)
set_option maxHeartbeats 1000000 in
theorem lp_third {S : Scr} {d : Nat} {f : FF} {g : GG} {n : Nat} {r L : Nat} (hr : r < 2 ^ 31) (hL : L ≤ 8) : ∀ (t : Nat) (k a : Nat), (t + k = L) → (a < 4 ^ k) → Wp S (d + 1) 90 9 [some (.int (nI r)), some (.int (nI L)), some (.int (nI a)), some (.int (nI (k + 1)))] [] n f g (Is (some (.int (nI (dropA r L t k a)))) n f g) := by
  intro t
  induction t with
  | zero =>
    intro k a e0 e1
    refine w_iload_n k90_9 rfl ?_
    refine w_iload_n k90_10 rfl ?_
    refine w_icmp_gt k90_11 (fun h11 => ?_) (fun h11 => absurd (nI_lt (by omega) (by omega)) h11)
    refine w_iload_n k90_38 rfl ?_
    refine w_iret k90_39 mt90 (.int) rfl (rfl) ?_
    exact ⟨rfl, rfl, rfl, rfl⟩
  | succ t ih =>
    intro k a e0 e1
    refine w_iload_n k90_9 rfl ?_
    refine w_iload_n k90_10 rfl ?_
    refine w_icmp_gt k90_11 (fun h11 => absurd h11 (nI_nlt (by omega) (by omega))) (fun h11 => ?_)
    refine w_iload_n k90_14 rfl ?_
    refine w_iconst k90_15 ?_
    refine w_irem k90_16 (by decide) ?_
    refine w_top (nI ((k + 1) % 3)) (pk_rem (d := 3) (by omega) (by omega) (by omega)) ?_
    refine w_if_eq k90_17 (fun h17 => ?_) (fun h17 => ?_)
    ·
      have hz : k % 3 = 2 := by
        have := (nI_eq (b := 0) (by omega) (by omega)).mp h17
        omega
      refine w_iinc k90_32 rfl (ls' := [_, _, _, _]) rfl ?_
      refine w_goto k90_35 ?_
      rw [nI_1]
      have hd4 := dg_lt r (L - 1 - k)
      have hb : dropA r L (t + 1) k a = dropA r L t (k + 1) (if k % 3 = 2 then a else a * 4 + dg r (L - 1 - k)) := rfl
      rw [hb]
      first
        | (rw [if_pos hz]; exact ih (k + 1) a (by omega) (by rw [Nat.pow_succ]; omega))
        | (rw [if_neg hz]; exact ih (k + 1) (a * 4 + dg r (L - 1 - k)) (by omega) (by rw [Nat.pow_succ]; omega))
    ·
      have hz : ¬ k % 3 = 2 := fun hh => h17 (by rw [show (k + 1) % 3 = 0 by omega]; rfl)
      refine w_iload_n k90_20 rfl ?_
      refine w_iload_n k90_21 rfl ?_
      refine w_iload_n k90_22 rfl ?_
      refine w_iload_n k90_23 rfl ?_
      refine w_isub k90_24 ?_
      refine w_top (nI (L - 1 - k)) (by rw [pk_sub (by omega)]; congr 1; omega) ?_
      refine w_sI k90_25 (by decide) mt87 [_, _] rfl rfl rfl (sp_stitch hr (by omega)) ?_
      refine w_sI k90_28 (by decide) mt27 [_, _] rfl rfl rfl sp_with ?_
      refine w_istore_n k90_31 (ls' := [_, _, _, _]) rfl ?_
      refine w_iinc k90_32 rfl (ls' := [_, _, _, _]) rfl ?_
      refine w_goto k90_35 ?_
      rw [nI_1]
      have hd4 := dg_lt r (L - 1 - k)
      have hb : dropA r L (t + 1) k a = dropA r L t (k + 1) (if k % 3 = 2 then a else a * 4 + dg r (L - 1 - k)) := rfl
      rw [hb]
      first
        | (rw [if_pos hz]; exact ih (k + 1) a (by omega) (by rw [Nat.pow_succ]; omega))
        | (rw [if_neg hz]; exact ih (k + 1) (a * 4 + dg r (L - 1 - k)) (by omega) (by rw [Nat.pow_succ]; omega))
set_option maxHeartbeats 1000000 in
theorem sp_third {S : Scr} {d : Nat} {f : FF} {g : GG} {n : Nat} {r : Nat} (hr : r < 65536) : Wp S (d + 1) 90 0 [some (.int (nI r)), none, none, none] [] n f g (Is (some (.int (nI (dropA r (rlen r) (rlen r) 0 0)))) n f g) := by
  refine w_iload_n k90_0 rfl ?_
  refine w_sI k90_1 (by decide) mt86 [_] rfl rfl rfl (sp_length (by omega)) ?_
  refine w_istore_n k90_4 (ls' := [_, _, _, _]) rfl ?_
  refine w_iconst k90_5 ?_
  refine w_istore_n k90_6 (ls' := [_, _, _, _]) rfl ?_
  refine w_iconst k90_7 ?_
  refine w_istore_n k90_8 (ls' := [_, _, _, _]) rfl ?_
  exact lp_third (by omega) (rlen_le r) _ 0 0 (by omega) (by omega)
set_option maxHeartbeats 1000000 in
theorem lp_deaf {S : Scr} {d : Nat} {f : FF} {g : GG} {n : Nat} {r : Nat} (hr : r < 2 ^ 31) : ∀ (t : Nat) (a : Nat) (q : Option Value), (t ≤ 8) → Wp S (d + 1) 91 9 [some (.int (nI r)), some (.int (nI a)), some (.int (nI t + (-1))), q] [] n f g (Is (some (.int (nI (deafA r t a)))) n f g) := by
  intro t
  induction t with
  | zero =>
    intro a q e0
    refine w_iload_n k91_9 rfl ?_
    refine w_if_lt k91_10 (fun h10 => ?_) (fun h10 => absurd ((by decide : (nI 0 + (-1) : Int32) < 0)) h10)
    refine w_iload_n k91_49 rfl ?_
    refine w_iret k91_50 mt91 (.int) rfl (rfl) ?_
    exact ⟨rfl, rfl, rfl, rfl⟩
  | succ t ih =>
    intro a q e0
    rw [pk_m1]
    refine w_iload_n k91_9 rfl ?_
    refine w_if_lt k91_10 (fun h10 => absurd h10 (nI_pos (by omega))) (fun h10 => ?_)
    refine w_iload_n k91_13 rfl ?_
    refine w_iload_n k91_14 rfl ?_
    refine w_sI k91_15 (by decide) mt87 [_, _] rfl rfl rfl (sp_stitch hr (by omega)) ?_
    refine w_istore_n k91_18 (ls' := [_, _, _, _]) rfl ?_
    refine w_iload_n k91_19 rfl ?_
    refine w_iload_n k91_20 rfl ?_
    refine w_iconst k91_21 ?_
    refine w_icmp_ne k91_22 (fun h22 => ?_) (fun h22 => ?_)
    ·
      have z1 : ¬ dg r t = 1 := fun hh => h22 (by rw [hh]; rfl)
      refine w_iload_n k91_29 rfl ?_
      refine w_iconst k91_30 ?_
      refine w_icmp_ne k91_31 (fun h31 => ?_) (fun h31 => ?_)
      ·
        have z2 : ¬ dg r t = 2 := fun hh => h31 (by rw [hh]; rfl)
        refine w_iload_n k91_38 rfl ?_
        refine w_sI k91_39 (by decide) mt27 [_, _] rfl rfl rfl sp_with ?_
        refine w_istore_n k91_42 (ls' := [_, _, _, _]) rfl ?_
        refine w_iinc k91_43 rfl (ls' := [_, _, _, _]) rfl ?_
        refine w_goto k91_46 ?_
        have hb : deafA r (t + 1) a = deafA r t (a * 4 + sw (dg r t)) := rfl
        rw [hb]
        first
          | (rw [show sw (dg r t) = 2 from if_pos z1]; exact ih _ _ (by omega))
          | (rw [show sw (dg r t) = 1 from by unfold sw; rw [if_neg z1, if_pos z2]]; exact ih _ _ (by omega))
          | (rw [show sw (dg r t) = dg r t from by unfold sw; rw [if_neg z1, if_neg z2]]; exact ih _ _ (by omega))
      ·
        have z2 : dg r t = 2 := by
          have := dg_lt r t
          exact (nI_eq (b := 2) (by omega) (by omega)).mp h31
        refine w_iconst k91_34 ?_
        refine w_goto k91_35 ?_
        refine w_sI k91_39 (by decide) mt27 [_, _] rfl rfl rfl sp_with ?_
        refine w_istore_n k91_42 (ls' := [_, _, _, _]) rfl ?_
        refine w_iinc k91_43 rfl (ls' := [_, _, _, _]) rfl ?_
        refine w_goto k91_46 ?_
        have hb : deafA r (t + 1) a = deafA r t (a * 4 + sw (dg r t)) := rfl
        rw [hb]
        first
          | (rw [show sw (dg r t) = 2 from if_pos z1]; exact ih _ _ (by omega))
          | (rw [show sw (dg r t) = 1 from by unfold sw; rw [if_neg z1, if_pos z2]]; exact ih _ _ (by omega))
          | (rw [show sw (dg r t) = dg r t from by unfold sw; rw [if_neg z1, if_neg z2]]; exact ih _ _ (by omega))
    ·
      have z1 : dg r t = 1 := by
        have := dg_lt r t
        exact (nI_eq (b := 1) (by omega) (by omega)).mp h22
      refine w_iconst k91_25 ?_
      refine w_goto k91_26 ?_
      refine w_sI k91_39 (by decide) mt27 [_, _] rfl rfl rfl sp_with ?_
      refine w_istore_n k91_42 (ls' := [_, _, _, _]) rfl ?_
      refine w_iinc k91_43 rfl (ls' := [_, _, _, _]) rfl ?_
      refine w_goto k91_46 ?_
      have hb : deafA r (t + 1) a = deafA r t (a * 4 + sw (dg r t)) := rfl
      rw [hb]
      first
        | (rw [show sw (dg r t) = 2 from if_pos z1]; exact ih _ _ (by omega))
        | (rw [show sw (dg r t) = 1 from by unfold sw; rw [if_neg z1, if_pos z2]]; exact ih _ _ (by omega))
        | (rw [show sw (dg r t) = dg r t from by unfold sw; rw [if_neg z1, if_neg z2]]; exact ih _ _ (by omega))
set_option maxHeartbeats 1000000 in
theorem sp_deaf {S : Scr} {d : Nat} {f : FF} {g : GG} {n : Nat} {r : Nat} (hr : r < 65536) : Wp S (d + 1) 91 0 [some (.int (nI r)), none, none, none] [] n f g (Is (some (.int (nI (deafA r (rlen r) 0)))) n f g) := by
  refine w_iconst k91_0 ?_
  refine w_istore_n k91_1 (ls' := [_, _, _, _]) rfl ?_
  refine w_iload_n k91_2 rfl ?_
  refine w_sI k91_3 (by decide) mt86 [_] rfl rfl rfl (sp_length (by omega)) ?_
  refine w_iconst k91_6 ?_
  refine w_isub k91_7 ?_
  refine w_top (nI (rlen r) + (-1)) (by rw [Int32.sub_eq_add_neg]) ?_
  refine w_istore_n k91_8 (ls' := [_, _, _, _]) rfl ?_
  exact lp_deaf (by omega) _ 0 none (rlen_le r)
set_option maxHeartbeats 1000000 in
theorem sp_knitted {S : Scr} {d : Nat} {f : FF} {g : GG} {n : Nat} {k r : Nat} (hk : k ≤ 4) (hr : r < 65536) : Wp S (d + 2) 92 0 [some (.int (nI k)), some (.int (nI r))] [] n f g (Is (some (.int (nI (kn k r)))) n f g) := by
  refine w_iload_n k92_0 rfl ?_
  rcases (show k = 0 ∨ k = 1 ∨ k = 2 ∨ k = 3 ∨ k = 4 by omega) with rfl | rfl | rfl | rfl | rfl
  ·
    refine w_tsw k92_1 (t := 77) (by decide) ?_
    refine w_iload_n k92_77 rfl ?_
    refine w_iret k92_78 mt92 (.int) rfl (rfl) ?_
    refine ⟨?_, rfl, rfl, rfl⟩
    first
      | rfl
      | (simp [kn, hz]; done)
      | (simp [kn, hz]; rfl)
  ·
    refine w_tsw k92_1 (t := 32) (by decide) ?_
    refine w_iload_n k92_32 rfl ?_
    refine w_sI k92_33 (by decide) mt90 [_] rfl rfl rfl (sp_third hr) ?_
    refine w_iret k92_36 mt92 (.int) rfl (rfl) ?_
    refine ⟨?_, rfl, rfl, rfl⟩
    first
      | rfl
      | (simp [kn, hz]; done)
      | (simp [kn, hz]; rfl)
  ·
    refine w_tsw k92_1 (t := 37) (by decide) ?_
    refine w_iload_n k92_37 rfl ?_
    refine w_sI k92_38 (by decide) mt86 [_] rfl rfl rfl (sp_length (by omega)) ?_
    refine w_bipush k92_41 ?_
    refine w_icmp_ge k92_43 (fun h43 => ?_) (fun h43 => ?_)
    ·
      have hz : ¬ rlen r < 8 := by
        have := rlen_le r
        have := (nI_leI (a := 8) (by omega) (by omega)).mp h43
        omega
      refine w_iload_n k92_54 rfl ?_
      refine w_iret k92_55 mt92 (.int) rfl (rfl) ?_
      refine ⟨?_, rfl, rfl, rfl⟩
      first
        | rfl
        | (simp [kn, hz]; done)
        | (simp [kn, hz]; rfl)
    ·
      have hz : rlen r < 8 := by
        have := rlen_le r
        exact Nat.not_le.mp fun hh => h43 (nI_le (a := 8) hh (by omega))
      refine w_iload_n k92_46 rfl ?_
      refine w_iconst k92_47 ?_
      refine w_sI k92_48 (by decide) mt27 [_, _] rfl rfl rfl sp_with ?_
      refine w_goto k92_51 ?_
      refine w_iret k92_55 mt92 (.int) rfl (rfl) ?_
      refine ⟨?_, rfl, rfl, rfl⟩
      first
        | rfl
        | (simp [kn, hz]; done)
        | (simp [kn, hz]; rfl)
  ·
    refine w_tsw k92_1 (t := 56) (by decide) ?_
    refine w_iload_n k92_56 rfl ?_
    refine w_sI k92_57 (by decide) mt91 [_] rfl rfl rfl (sp_deaf hr) ?_
    refine w_iret k92_60 mt92 (.int) rfl (rfl) ?_
    refine ⟨?_, rfl, rfl, rfl⟩
    first
      | rfl
      | (simp [kn, hz]; done)
      | (simp [kn, hz]; rfl)
  ·
    refine w_tsw k92_1 (t := 61) (by decide) ?_
    refine w_iload_n k92_61 rfl ?_
    refine w_if_ne k92_62 (fun h62 => ?_) (fun h62 => ?_)
    ·
      have hz : ¬ r = 0 := fun hh => h62 (by rw [hh]; rfl)
      refine w_iload_n k92_69 rfl ?_
      refine w_iconst k92_70 ?_
      refine w_idiv k92_71 (by decide) ?_
      refine w_top (nI (r / 4)) (pk_div (d := 4) (by omega) (by omega) (by omega)) ?_
      refine w_iconst k92_72 ?_
      refine w_sI k92_73 (by decide) mt27 [_, _] rfl rfl rfl sp_with ?_
      refine w_iret k92_76 mt92 (.int) rfl (rfl) ?_
      refine ⟨?_, rfl, rfl, rfl⟩
      first
        | rfl
        | (simp [kn, hz]; done)
        | (simp [kn, hz]; rfl)
    ·
      have hz : r = 0 := (nI_eq (b := 0) (by omega) (by omega)).mp h62
      refine w_iconst k92_65 ?_
      refine w_goto k92_66 ?_
      refine w_iret k92_76 mt92 (.int) rfl (rfl) ?_
      refine ⟨?_, rfl, rfl, rfl⟩
      first
        | rfl
        | (simp [kn, hz]; done)
        | (simp [kn, hz]; rfl)
set_option maxHeartbeats 1000000 in
theorem mp_in {S : Scr} {d : Nat} {f : FF} {g : GG} {n : Nat} (x lo hi : Int32) : Wp S d 59 0 [some (.int x), some (.int lo), some (.int hi)] [] n f g (Is (some (.int (bI (decide (lo ≤ x ∧ x ≤ hi))))) n f g) := by
  refine w_iload_n k59_0 rfl ?_
  refine w_iload_n k59_1 rfl ?_
  refine w_icmp_lt k59_2 (fun h2 => ?_) (fun h2 => ?_)
  ·
    refine w_iconst k59_14 ?_
    refine w_iret k59_15 mt59 (.boolean) rfl (rfl) ?_
    refine ⟨?_, rfl, rfl, rfl⟩
    simp [bI, ← Int32.not_lt, *]
  ·
    refine w_iload_n k59_5 rfl ?_
    refine w_iload_n k59_6 rfl ?_
    refine w_icmp_gt k59_7 (fun h7 => ?_) (fun h7 => ?_)
    ·
      refine w_iconst k59_14 ?_
      refine w_iret k59_15 mt59 (.boolean) rfl (rfl) ?_
      refine ⟨?_, rfl, rfl, rfl⟩
      simp [bI, ← Int32.not_lt, *]
    ·
      refine w_iconst k59_10 ?_
      refine w_goto k59_11 ?_
      refine w_iret k59_15 mt59 (.boolean) rfl (rfl) ?_
      refine ⟨?_, rfl, rfl, rfl⟩
      simp [bI, ← Int32.not_lt, *]
set_option maxHeartbeats 1000000 in
theorem mp_has {S : Scr} {d : Nat} {f : FF} {g : GG} {n : Nat} {B c : Nat} (hB : B < 2 ^ 31) (hc : c < 32) : Wp S d 108 0 [some (.int (nI B)), some (.int (nI c))] [] n f g (Is (some (.int (bI (B.testBit c)))) n f g) := by
  refine w_iload_n k108_0 rfl ?_
  refine w_iload_n k108_1 rfl ?_
  refine w_ishr k108_2 ?_
  rw [shr_n hB hc]
  refine w_iconst k108_3 ?_
  refine w_iand k108_4 ?_
  rw [and_n (k := 1) (Nat.lt_of_le_of_lt (Nat.div_le_self _ _) (by omega)) 1 (by decide)]
  refine w_iconst k108_5 ?_
  refine w_icmp_ne k108_6 (fun h6 => ?_) (fun h6 => ?_)
  ·
    refine w_iconst k108_13 ?_
    refine w_iret k108_14 mt108 (.boolean) rfl (rfl) ?_
    refine ⟨?_, rfl, rfl, rfl⟩
    have e : (nI (B / 2 ^ c % 2 ^ 1) = 1) ↔ B.testBit c = true := by
      rw [show (1 : Int32) = nI 1 from rfl, nI_eq (by omega) (by omega), Nat.testBit_eq_decide_div_mod_eq]
      simp
    simp [bI, ← e, *]
  ·
    refine w_iconst k108_9 ?_
    refine w_goto k108_10 ?_
    refine w_iret k108_14 mt108 (.boolean) rfl (rfl) ?_
    refine ⟨?_, rfl, rfl, rfl⟩
    have e : (nI (B / 2 ^ c % 2 ^ 1) = 1) ↔ B.testBit c = true := by
      rw [show (1 : Int32) = nI 1 from rfl, nI_eq (by omega) (by omega), Nat.testBit_eq_decide_div_mod_eq]
      simp
    simp [bI, ← e, *]
theorem div4s (r j : Nat) : r / 4 ^ j / 4 = r / 4 ^ (j + 1) := by rw [Nat.div_div_eq_div_mul, Nat.pow_succ]
theorem div_lt31 {r : Nat} (hr : r < 2 ^ 31) (k : Nat) : r / k < 2 ^ 31 := Nat.lt_of_le_of_lt (Nat.div_le_self _ _) hr
set_option maxHeartbeats 1000000 in
theorem ml_lengthOf {S : Scr} {d : Nat} {f : FF} {g : GG} {n : Nat} {r : Nat} (hr : r < 65536) : ∀ (t : Nat) (j : Nat), (t + j = 8) → Wp S d 95 4 [some (.int (nI r)), some (.int (nI j)), some (.int (nI (r / 4 ^ j)))] [] n f g (Is (some (.int (nI (rlA r t j)))) n f g) := by
  intro t
  induction t with
  | zero =>
    intro j e0
    refine w_iload_n k95_4 rfl ?_
    refine w_if_le k95_5 (fun h5 => ?_) (fun h5 => absurd (by rw [show j = 8 by omega, show r / 4 ^ 8 = 0 from Nat.div_eq_of_lt (by omega)]; decide) h5)
    refine w_iload_n k95_18 rfl ?_
    refine w_iret k95_19 mt95 (.int) rfl (rfl) ?_
    exact ⟨rfl, rfl, rfl, rfl⟩
  | succ t ih =>
    intro j e0
    refine w_iload_n k95_4 rfl ?_
    refine w_if_le k95_5 (fun h5 => ?_) (fun h5 => ?_)
    ·
      have hz : r / 4 ^ j = 0 := Nat.le_zero.mp ((nI_leI (b := 0) (div_lt31 (by omega) _) (by omega)).mp h5)
      refine w_iload_n k95_18 rfl ?_
      refine w_iret k95_19 mt95 (.int) rfl (rfl) ?_
      rw [show rlA r (t + 1) j = j from if_pos hz]
      exact ⟨rfl, rfl, rfl, rfl⟩
    ·
      have hz : ¬ r / 4 ^ j = 0 := fun hh => h5 (by rw [hh]; decide)
      refine w_iinc k95_8 rfl (ls' := [_, _, _]) rfl ?_
      refine w_iload_n k95_11 rfl ?_
      refine w_iconst k95_12 ?_
      refine w_idiv k95_13 (by decide) ?_
      refine w_top (nI (r / 4 ^ (j + 1))) (by rw [← div4s]; exact pk_div (d := 4) (div_lt31 (by omega) _) (by omega) (by omega)) ?_
      refine w_istore_n k95_14 (ls' := [_, _, _]) rfl ?_
      refine w_goto k95_15 ?_
      rw [nI_1, show rlA r (t + 1) j = rlA r t (j + 1) from if_neg hz]
      exact ih (j + 1) (by omega)
set_option maxHeartbeats 1000000 in
theorem mp_lengthOf {S : Scr} {d : Nat} {f : FF} {g : GG} {n : Nat} {r : Nat} (hr : r < 65536) : Wp S d 95 0 [some (.int (nI r)), none, none] [] n f g (Is (some (.int (nI (rlen r)))) n f g) := by
  refine w_iconst k95_0 ?_
  refine w_istore_n k95_1 (ls' := [_, _, _]) rfl ?_
  refine w_iload_n k95_2 rfl ?_
  refine w_istore_n k95_3 (ls' := [_, _, _]) rfl ?_
  have := ml_lengthOf (S := S) (d := d) (f := f) (g := g) (n := n) hr 8 0 rfl
  rw [Nat.pow_zero, Nat.div_one] at this
  exact this
def mA (r : Nat) : Nat → Nat → Bool → Bool
  | 0, _, b => b
  | t + 1, j, b => if r / 4 ^ j = 0 then b else if b = false then false else mA r t (j + 1) (decide (0 < dg r j))
theorem mA_false (r : Nat) : ∀ t j, mA r t j false = false := by
  intro t
  cases t with
  | zero => intro j; rfl
  | succ t => intro j; simp [mA]
def allF (r j : Nat) : Nat → Bool
  | 0 => true
  | k + 1 => decide (dg r (j + k) ≠ 0) && allF r j k
theorem allF_cons (r : Nat) : ∀ k j, allF r j (k + 1) = (decide (dg r j ≠ 0) && allF r (j + 1) k) := by
  intro k
  induction k with
  | zero => intro j; simp [allF]
  | succ k ih =>
    intro j
    rw [show allF r j (k + 1 + 1) = (decide (dg r (j + (k + 1)) ≠ 0) && allF r j (k + 1)) from rfl, ih j, show allF r (j + 1) (k + 1) = (decide (dg r (j + 1 + k) ≠ 0) && allF r (j + 1) k) from rfl, show j + 1 + k = j + (k + 1) by omega]
    cases decide (dg r (j + (k + 1)) ≠ 0) <;> cases decide (dg r j ≠ 0) <;> rfl
theorem mA_allF (r : Nat) : ∀ t j, mA r t j true = allF r j (rlA r t j - j) := by
  intro t
  induction t with
  | zero => intro j; simp [mA, rlA, allF]
  | succ t ih =>
    intro j
    by_cases hz : r / 4 ^ j = 0
    · simp [mA, rlA, hz, allF]
    · have h1 := (rlA_le (r := r) t (j + 1)).1
      rw [show rlA r (t + 1) j = rlA r t (j + 1) from if_neg hz, show mA r (t + 1) j true = mA r t (j + 1) (decide (0 < dg r j)) from by simp [mA, hz]]
      rw [show rlA r t (j + 1) - j = (rlA r t (j + 1) - (j + 1)) + 1 by omega, allF_cons, ← ih (j + 1)]
      by_cases hd : dg r j = 0
      · rw [show decide (0 < dg r j) = false by simp [hd], mA_false]; simp [hd]
      · rw [show decide (0 < dg r j) = true by simp; omega]; simp [hd]
theorem allF_allD (r : Nat) : ∀ k, allF r 0 k = allD r k := by
  intro k
  induction k with
  | zero => rfl
  | succ k ih => simp only [allF, allD, ih, Nat.zero_add]
theorem mA_allD (r : Nat) : mA r 8 0 true = allD r (rlen r) := by rw [mA_allF, Nat.sub_zero, allF_allD]; rfl
theorem bI_i {b : Bool} (h : bI b = 1) : b = true := by cases b <;> first | rfl | (revert h; decide)
set_option maxHeartbeats 1000000 in
theorem ml_isRow {S : Scr} {d : Nat} {f : FF} {g : GG} {n : Nat} {r : Nat} (hr : r < 65536) : ∀ (t : Nat) (j : Nat) (b : Bool), (t + j = 8) → Wp S (d + 1) 94 10 [some (.int (nI r)), some (.int (bI b)), some (.int (nI (r / 4 ^ j)))] [] n f g (Is (some (.int (bI (mA r t j b)))) n f g) := by
  intro t
  induction t with
  | zero =>
    intro j b e0
    refine w_iload_n k94_10 rfl ?_
    refine w_if_le k94_11 (fun h11 => ?_) (fun h11 => absurd (by rw [show j = 8 by omega, show r / 4 ^ 8 = 0 from Nat.div_eq_of_lt (by omega)]; decide) h11)
    refine w_iload_n k94_37 rfl ?_
    refine w_iret k94_38 mt94 (.boolean) rfl (nar_b _) ?_
    exact ⟨rfl, rfl, rfl, rfl⟩
  | succ t ih =>
    intro j b e0
    refine w_iload_n k94_10 rfl ?_
    refine w_if_le k94_11 (fun h11 => ?_) (fun h11 => ?_)
    ·
      have hz : r / 4 ^ j = 0 := Nat.le_zero.mp ((nI_leI (b := 0) (div_lt31 (by omega) _) (by omega)).mp h11)
      refine w_iload_n k94_37 rfl ?_
      refine w_iret k94_38 mt94 (.boolean) rfl (nar_b _) ?_
      refine ⟨?_, rfl, rfl, rfl⟩
      first
        | (simp [mA, hz]; done)
        | (simp [mA, hz, hb]; done)
    ·
      have hz : ¬ r / 4 ^ j = 0 := fun hh => h11 (by rw [hh]; decide)
      refine w_iload_n k94_14 rfl ?_
      refine w_if_eq k94_15 (fun h15 => ?_) (fun h15 => ?_)
      ·
        have hb := bI_0.mp h15
        refine w_iload_n k94_37 rfl ?_
        refine w_iret k94_38 mt94 (.boolean) rfl (nar_b _) ?_
        refine ⟨?_, rfl, rfl, rfl⟩
        first
          | (simp [mA, hz]; done)
          | (simp [mA, hz, hb]; done)
      ·
        have hb := bI_n0.mp h15
        refine w_iload_n k94_18 rfl ?_
        refine w_iconst k94_19 ?_
        refine w_irem k94_20 (by decide) ?_
        refine w_top (nI (dg r j)) (pk_rem (d := 4) (div_lt31 (by omega) _) (by omega) (by omega)) ?_
        refine w_if_le k94_21 (fun h21 => ?_) (fun h21 => ?_)
        ·
          have hd : dg r j = 0 := by
            have := dg_lt r j
            exact Nat.le_zero.mp ((nI_leI (b := 0) (by omega) (by omega)).mp h21)
          refine w_iconst k94_28 ?_
          refine w_istore_n k94_29 (ls' := [_, _, _]) rfl ?_
          refine w_iload_n k94_30 rfl ?_
          refine w_iconst k94_31 ?_
          refine w_idiv k94_32 (by decide) ?_
          refine w_top (nI (r / 4 ^ (j + 1))) (by rw [← div4s]; exact pk_div (d := 4) (div_lt31 (by omega) _) (by omega) (by omega)) ?_
          refine w_istore_n k94_33 (ls' := [_, _, _]) rfl ?_
          refine w_goto k94_34 ?_
          rw [show mA r (t + 1) j b = mA r t (j + 1) (decide (0 < dg r j)) from by simp [mA, hz, hb]]
          first
            | (rw [show decide (0 < dg r j) = false by simp [hd]]; exact ih (j + 1) false (by omega))
            | (rw [show decide (0 < dg r j) = true by simp; omega]; exact ih (j + 1) true (by omega))
        ·
          have hd : ¬ dg r j = 0 := fun hh => h21 (by rw [hh]; decide)
          refine w_iconst k94_24 ?_
          refine w_goto k94_25 ?_
          refine w_istore_n k94_29 (ls' := [_, _, _]) rfl ?_
          refine w_iload_n k94_30 rfl ?_
          refine w_iconst k94_31 ?_
          refine w_idiv k94_32 (by decide) ?_
          refine w_top (nI (r / 4 ^ (j + 1))) (by rw [← div4s]; exact pk_div (d := 4) (div_lt31 (by omega) _) (by omega) (by omega)) ?_
          refine w_istore_n k94_33 (ls' := [_, _, _]) rfl ?_
          refine w_goto k94_34 ?_
          rw [show mA r (t + 1) j b = mA r t (j + 1) (decide (0 < dg r j)) from by simp [mA, hz, hb]]
          first
            | (rw [show decide (0 < dg r j) = false by simp [hd]]; exact ih (j + 1) false (by omega))
            | (rw [show decide (0 < dg r j) = true by simp; omega]; exact ih (j + 1) true (by omega))
set_option maxHeartbeats 1000000 in
theorem mp_isRow {S : Scr} {d : Nat} {f : FF} {g : GG} {n : Nat} (x : Int32) : Wp S (d + 1) 94 0 [some (.int x), none, none] [] n f g (Is (some (.int (bI (isRowI x)))) n f g) := by
  refine w_iload_n k94_0 rfl ?_
  refine w_iconst k94_1 ?_
  refine w_ldc k94_2 ?_
  refine w_sI k94_4 (by decide) mt59 [_, _, _] rfl rfl rfl (mp_in _ _ _) ?_
  by_cases hx : 1 ≤ x ∧ x ≤ 65535
  · obtain ⟨r, hr1, hr2, rfl⟩ := int_row hx
    have e : isRowI (nI r) = mA r 8 0 true := by unfold isRowI; rw [nI_clamp (by omega), decide_eq_true hx, Bool.true_and, mA_allD]
    rw [e, decide_eq_true hx]
    refine w_istore_n k94_7 (ls' := [_, _, _]) rfl ?_
    refine w_iload_n k94_8 rfl ?_
    refine w_istore_n k94_9 (ls' := [_, _, _]) rfl ?_
    have := ml_isRow (S := S) (d := d) (f := f) (g := g) (n := n) (r := r) (by omega) 8 0 true rfl
    rw [Nat.pow_zero, Nat.div_one] at this
    exact this
  rw [show isRowI x = false from by unfold isRowI; rw [decide_eq_false hx, Bool.false_and], decide_eq_false hx]
  refine w_istore_n k94_7 (ls' := [_, _, _]) rfl ?_
  refine w_iload_n k94_8 rfl ?_
  refine w_istore_n k94_9 (ls' := [_, _, _]) rfl ?_
  refine w_iload_n k94_10 rfl ?_
  refine w_if_le k94_11 (fun h11 => ?_) (fun h11 => ?_)
  ·
    refine w_iload_n k94_37 rfl ?_
    refine w_iret k94_38 mt94 (.boolean) rfl (nar_b _) ?_
    exact ⟨rfl, rfl, rfl, rfl⟩
  ·
    refine w_iload_n k94_14 rfl ?_
    refine w_if_eq k94_15 (fun h15 => ?_) (fun h15 => absurd (rfl) h15)
    refine w_iload_n k94_37 rfl ?_
    refine w_iret k94_38 mt94 (.boolean) rfl (nar_b _) ?_
    exact ⟨rfl, rfl, rfl, rfl⟩
end
section
/-! SPECS, 4: rows stay rows; the model knits -/
theorem RowOk.zero : RowOk 0 := ⟨[], ⟨by simp, by simp⟩, rfl⟩
theorem RowOk.dg {r i : Nat} (h : RowOk r) (hi : i < rlen r) : dg r i ≠ 0 := by
  obtain ⟨l, hl, rfl⟩ := h
  rw [rlen_vr hl] at hi
  rw [dg_vr hl hi]
  have := hl.2 l[i] (List.getElem_mem hi)
  omega
theorem RowOk.len0 {r : Nat} (h : RowOk r) : rlen r = 0 ↔ r = 0 := by
  constructor
  · intro h0
    have := rlen_lt h.lt
    rw [h0] at this
    omega
  · intro h0; subst h0; decide
def ofR : Nat → Nat → List Nat
  | 0, _ => []
  | k + 1, r => r % 4 :: ofR k (r / 4)
theorem vr_ofR : ∀ k r, vr (ofR k r) = r % 4 ^ k := by
  intro k
  induction k with
  | zero => intro r; simp [ofR, vr, Nat.mod_one]
  | succ k ih =>
    intro r
    simp only [ofR, vr, ih, Nat.pow_succ]
    rw [Nat.mul_comm (4 ^ k) 4, Nat.mod_mul]
theorem ofR_len : ∀ k r, (ofR k r).length = k := by
  intro k
  induction k with
  | zero => intro r; rfl
  | succ k ih => intro r; simp [ofR, ih]
theorem ofR_mem : ∀ k r d, d ∈ ofR k r → ∃ i, i < k ∧ d = dg r i := by
  intro k
  induction k with
  | zero => intro r d h; simp [ofR] at h
  | succ k ih =>
    intro r d h
    simp only [ofR, List.mem_cons] at h
    rcases h with rfl | h
    · exact ⟨0, by omega, by simp [dg]⟩
    · obtain ⟨i, hi, rfl⟩ := ih _ _ h
      refine ⟨i + 1, by omega, ?_⟩
      unfold dg
      rw [Nat.div_div_eq_div_mul, Nat.pow_succ, Nat.mul_comm]
theorem rowOk_of {r : Nat} (hr : r < 65536) (h : ∀ i, i < rlen r → dg r i ≠ 0) : RowOk r := by
  refine ⟨ofR (rlen r) r, ⟨by rw [ofR_len]; exact rlen_le r, fun d hd => ?_⟩, ?_⟩
  · obtain ⟨i, hi, rfl⟩ := ofR_mem _ _ _ hd
    have h1 := h i hi
    have h2 := dg_lt r i
    omega
  · rw [vr_ofR, Nat.mod_eq_of_lt (rlen_lt hr)]
theorem allD_iff {r : Nat} : ∀ k, allD r k = true ↔ ∀ i, i < k → dg r i ≠ 0 := by
  intro k
  induction k with
  | zero => simp [allD]
  | succ k ih =>
    simp only [allD, Bool.and_eq_true, decide_eq_true_eq, ih]
    constructor
    · rintro ⟨h1, h2⟩ i hi
      by_cases hk : i = k
      · subst hk; exact h1
      · exact h2 i (by omega)
    · intro h
      exact ⟨h k (by omega), fun i hi => h i (by omega)⟩
/-- a row that is told -/
theorem isRowI_iff {x : Int32} : isRowI x = true ↔ ∃ r, x = nI r ∧ 0 < r ∧ RowOk r := by
  unfold isRowI
  constructor
  · intro h
    rw [Bool.and_eq_true, decide_eq_true_eq] at h
    obtain ⟨r, h1, h2, rfl⟩ := int_row h.1
    rw [nI_clamp (by omega)] at h
    exact ⟨r, rfl, h1, rowOk_of (by omega) ((allD_iff _).mp h.2)⟩
  · rintro ⟨r, rfl, h1, h2⟩
    have hr := h2.lt
    rw [nI_clamp (by omega), Bool.and_eq_true, decide_eq_true_eq]
    exact ⟨⟨nI_le (a := 1) (by omega) (by omega), nI_le (b := 65535) (by omega) (by omega)⟩, (allD_iff _).mpr (fun i hi => h2.dg hi)⟩
theorem isRow0_iff {x : Int32} : isRow0 x = true ↔ ∃ r, x = nI r ∧ RowOk r := by
  unfold isRow0
  rw [Bool.or_eq_true, decide_eq_true_eq, isRowI_iff]
  constructor
  · rintro (rfl | ⟨r, h1, h2, h3⟩)
    · exact ⟨0, rfl, RowOk.zero⟩
    · exact ⟨r, h1, h3⟩
  · rintro ⟨r, rfl, h⟩
    by_cases h0 : r = 0
    · exact Or.inl (by rw [h0]; rfl)
    · exact Or.inr ⟨r, rfl, by omega, h⟩
theorem dropA_list {l : List Nat} (hl : RLs l) : ∀ t k m, t + k = l.length → m.length ≤ k → (∀ d ∈ m, 1 ≤ d ∧ d ≤ 3) → ∃ m', dropA (vr l) l.length t k (vr m) = vr m' ∧ m'.length ≤ k + t ∧ ∀ d ∈ m', 1 ≤ d ∧ d ≤ 3 := by
  intro t
  induction t with
  | zero => intro k m h1 h2 h3; exact ⟨m, rfl, h2, h3⟩
  | succ t ih =>
    intro k m h1 h2 h3
    simp only [dropA]
    by_cases hk : k % 3 = 2
    · rw [if_pos hk]
      obtain ⟨m', a, b, c⟩ := ih (k + 1) m (by omega) (by omega) h3
      exact ⟨m', a, by omega, c⟩
    · rw [if_neg hk]
      have hi : l.length - 1 - k < l.length := by omega
      have hd := hl.2 _ (List.getElem_mem hi)
      rw [dg_vr hl hi, show vr m * 4 + l[l.length - 1 - k] = vr (l[l.length - 1 - k] :: m) from by simp only [vr]; omega]
      obtain ⟨m', a, b, c⟩ := ih (k + 1) (l[l.length - 1 - k] :: m) (by omega) (by simp; omega) (fun d h => by
        rcases List.mem_cons.mp h with rfl | h
        · exact hd
        · exact h3 d h)
      exact ⟨m', a, by omega, c⟩
theorem deafA_list {l : List Nat} (hl : RLs l) : ∀ s m, s + m.length ≤ l.length → (∀ d ∈ m, 1 ≤ d ∧ d ≤ 3) → ∃ m', deafA (vr l) s (vr m) = vr m' ∧ m'.length ≤ m.length + s ∧ ∀ d ∈ m', 1 ≤ d ∧ d ≤ 3 := by
  intro s
  induction s with
  | zero => intro m h1 h3; exact ⟨m, rfl, by omega, h3⟩
  | succ s ih =>
    intro m h1 h3
    simp only [deafA]
    have hi : s < l.length := by omega
    have hd := hl.2 _ (List.getElem_mem hi)
    have hs : 1 ≤ sw l[s] ∧ sw l[s] ≤ 3 := by unfold sw; split; omega; split <;> omega
    rw [dg_vr hl hi, show vr m * 4 + sw l[s] = vr (sw l[s] :: m) from by simp only [vr]; omega]
    obtain ⟨m', a, b, c⟩ := ih (sw l[s] :: m) (by simp; omega) (fun d h => by
      rcases List.mem_cons.mp h with rfl | h
      · exact hs
      · exact h3 d h)
    exact ⟨m', a, by simp at b; omega, c⟩
theorem kn_ok {k r : Nat} (h : RowOk r) : RowOk (kn k r) := by
  obtain ⟨l, hl, rfl⟩ := h
  have h8 := hl.1
  unfold kn
  rw [rlen_vr hl]
  split
  · obtain ⟨m', a, b, c⟩ := dropA_list hl l.length 0 [] (by omega) (by simp) (by simp)
    exact ⟨m', ⟨by omega, c⟩, a⟩
  · split
    · split
      · exact ⟨2 :: l, ⟨by simp; omega, fun d hd => by
          rcases List.mem_cons.mp hd with rfl | hd
          · omega
          · exact hl.2 d hd⟩, by simp only [vr]; omega⟩
      · exact ⟨l, hl, rfl⟩
    · split
      · obtain ⟨m', a, b, c⟩ := deafA_list hl l.length [] (by simp) (by simp)
        exact ⟨m', ⟨by simp at b; omega, c⟩, a⟩
      · split
        · split
          · exact RowOk.zero
          · cases l with
            | nil => exact absurd rfl (by assumption)
            | cons d l =>
              have hd := hl.2 d List.mem_cons_self
              refine ⟨3 :: l, ⟨by simpa using h8, fun x hx => ?_⟩, by simp only [vr]; omega⟩
              rcases List.mem_cons.mp hx with rfl | hx
              · omega
              · exact hl.2 x (List.mem_cons_of_mem _ hx)
        · exact ⟨l, hl, rfl⟩
theorem vr_snoc : ∀ (l : List Nat) (d : Nat), vr (l ++ [d]) = vr l + d * 4 ^ l.length := by
  intro l
  induction l with
  | nil => intro d; simp [vr]
  | cons x l ih =>
    intro d
    simp only [List.cons_append, vr, ih, List.length_cons, Nat.pow_succ]
    rw [Nat.mul_add, ← Nat.mul_assoc, Nat.mul_comm 4 d, Nat.mul_assoc d 4, Nat.mul_comm 4 (4 ^ l.length)]
    omega
theorem wof_ok {r : Nat} (h : RowOk r) : RowOk (wof r) ∧ wof r = r % 4 ^ (rlen r - 1) := by
  obtain ⟨l, hl, rfl⟩ := h
  unfold wof
  rw [rlen_vr hl]
  by_cases h0 : l.length = 0
  · rw [if_pos h0, List.length_eq_zero_iff.mp h0]
    exact ⟨RowOk.zero, rfl⟩
  · rw [if_neg h0]
    have hne : l ≠ [] := fun hh => h0 (by rw [hh]; rfl)
    have hs := List.dropLast_concat_getLast hne
    have hi : l.length - 1 < l.length := by omega
    rw [dg_vr hl hi]
    have hlast : l[l.length - 1] = l.getLast hne := (List.getLast_eq_getElem hne).symm
    rw [hlast]
    have hv : vr l = vr l.dropLast + l.getLast hne * 4 ^ (l.length - 1) := by
      have := vr_snoc l.dropLast (l.getLast hne)
      rw [hs, List.length_dropLast] at this
      exact this
    have hdl : ∀ d ∈ l.dropLast, 1 ≤ d ∧ d ≤ 3 := fun d hd => hl.2 d (List.dropLast_subset l hd)
    have hlt := vr_lt hdl
    rw [List.length_dropLast] at hlt
    have e : vr l - l.getLast hne * 4 ^ (l.length - 1) = vr l.dropLast := by omega
    rw [e]
    refine ⟨⟨l.dropLast, ⟨by rw [List.length_dropLast]; have := hl.1; omega, hdl⟩, rfl⟩, ?_⟩
    rw [hv, Nat.add_mul_mod_self_right, Nat.mod_eq_of_lt hlt]
set_option maxHeartbeats 1000000 in
theorem ml_power {S : Scr} {d : Nat} {f : FF} {g : GG} {n : Nat} {N : Nat} (hN : N ≤ 8) : ∀ (t : Nat) (k : Nat), (t + k = N) → Wp S d 96 4 [some (.int (nI N)), some (.int (nI (4 ^ k))), some (.int (nI k))] [] n f g (Is (some (.int (nI (4 ^ N)))) n f g) := by
  intro t
  induction t with
  | zero =>
    intro k e0
    refine w_iload_n k96_4 rfl ?_
    refine w_iload_n k96_5 rfl ?_
    refine w_icmp_ge k96_6 (fun h6 => ?_) (fun h6 => absurd (nI_le (by omega) (by omega)) h6)
    refine w_iload_n k96_19 rfl ?_
    refine w_iret k96_20 mt96 (.int) rfl (rfl) ?_
    rw [show k = N by omega]
    exact ⟨rfl, rfl, rfl, rfl⟩
  | succ t ih =>
    intro k e0
    refine w_iload_n k96_4 rfl ?_
    refine w_iload_n k96_5 rfl ?_
    refine w_icmp_ge k96_6 (fun h6 => absurd h6 (nI_ge (by omega) (by omega))) (fun h6 => ?_)
    refine w_iload_n k96_9 rfl ?_
    refine w_iconst k96_10 ?_
    refine w_imul k96_11 ?_
    refine w_top (nI (4 ^ (k + 1))) (pk_mul (4 ^ k) 4) ?_
    refine w_istore_n k96_12 (ls' := [_, _, _]) rfl ?_
    refine w_iinc k96_13 rfl (ls' := [_, _, _]) rfl ?_
    refine w_goto k96_16 ?_
    rw [nI_1]
    exact ih (k + 1) (by omega)
set_option maxHeartbeats 1000000 in
theorem mp_power {S : Scr} {d : Nat} {f : FF} {g : GG} {n : Nat} {N : Nat} (hN : N ≤ 8) : Wp S d 96 0 [some (.int (nI N)), none, none] [] n f g (Is (some (.int (nI (4 ^ N)))) n f g) := by
  refine w_iconst k96_0 ?_
  refine w_istore_n k96_1 (ls' := [_, _, _]) rfl ?_
  refine w_iconst k96_2 ?_
  refine w_istore_n k96_3 (ls' := [_, _, _]) rfl ?_
  exact ml_power hN _ 0 rfl
theorem nI_zero_of {k : Nat} (h : nI k ≤ 0) (h8 : k ≤ 8) : k = 0 := Nat.le_zero.mp ((nI_leI (b := 0) (by omega) (by omega)).mp h)
theorem nI_pos_of {k : Nat} (h : ¬ nI k ≤ 0) (h8 : k ≤ 8) : 0 < k := by
  by_cases hk : k = 0
  · subst hk; exact absurd (by decide) h
  · omega
set_option maxHeartbeats 1000000 in
theorem mp_withoutFirst {S : Scr} {d : Nat} {f : FF} {g : GG} {n : Nat} {r : Nat} (h : RowOk r) : Wp S (d + 1) 174 0 [some (.int (nI r))] [] n f g (Is (some (.int (nI (wof r)))) n f g) := by
  refine w_iload_n k174_0 rfl ?_
  refine w_iload_n k174_1 rfl ?_
  have hr := h.lt
  have h8 := rlen_le r
  have hp := (wof_ok h).2
  refine w_sI k174_2 (by decide) mt95 [_] rfl rfl rfl (mp_lengthOf (by omega)) ?_
  refine w_if_le k174_5 (fun h5 => ?_) (fun h5 => ?_)
  ·
    refine w_iconst k174_17 ?_
    refine w_sI k174_18 (by decide) mt96 [_] rfl rfl rfl (mp_power (N := 0) (by omega)) ?_
    refine w_irem k174_21 (nI_ne0 (Nat.pow_pos (by omega)) (Nat.lt_of_le_of_lt (p4_le (by omega)) (by omega))) ?_
    refine w_iret k174_22 mt174 (.int) rfl (rfl) ?_
    rw [pk_rem (d := 4 ^ 0) (by omega) (by decide) (by decide), hp, show rlen r - 1 = 0 by have := nI_zero_of h5 h8; omega]
    exact ⟨rfl, rfl, rfl, rfl⟩
  ·
    refine w_iload_n k174_8 rfl ?_
    refine w_sI k174_9 (by decide) mt95 [_] rfl rfl rfl (mp_lengthOf (by omega)) ?_
    refine w_iconst k174_12 ?_
    refine w_isub k174_13 ?_
    refine w_top (nI (rlen r - 1)) (pk_sub (b := 1) (by have := nI_pos_of h5 h8; omega)) ?_
    refine w_goto k174_14 ?_
    refine w_sI k174_18 (by decide) mt96 [_] rfl rfl rfl (mp_power (N := rlen r - 1) (by omega)) ?_
    refine w_irem k174_21 (nI_ne0 (Nat.pow_pos (by omega)) (Nat.lt_of_le_of_lt (p4_le (by omega)) (by omega))) ?_
    refine w_iret k174_22 mt174 (.int) rfl (rfl) ?_
    rw [pk_rem (by omega) (Nat.pow_pos (by omega)) (Nat.lt_of_le_of_lt (p4_le (by omega)) (by omega)), hp]
    exact ⟨rfl, rfl, rfl, rfl⟩
end
section
/-! SPECS, 5: the model knits -/
set_option maxHeartbeats 1000000 in
theorem ml_third {S : Scr} {d : Nat} {f : FF} {g : GG} {n : Nat} {kv r L : Nat} (hr : r < 65536) (hL : L ≤ 8) : ∀ (t : Nat) (k a : Nat), (t + k = L) → (a < 4 ^ k) → Wp S (d + 1) 97 41 [some (.int (nI kv)), some (.int (nI r)), some (.int (nI L)), some (.int (nI a)), some (.int (nI k)), none, none] [] n f g (Is (some (.int (nI (dropA r L t k a)))) n f g) := by
  intro t
  induction t with
  | zero =>
    intro k a e0 e1
    refine w_iload k97_41 rfl ?_
    refine w_iload_n k97_43 rfl ?_
    refine w_icmp_ge k97_44 (fun h44 => ?_) (fun h44 => absurd (nI_le (by omega) (by omega)) h44)
    refine w_iload_n k97_83 rfl ?_
    refine w_iret k97_84 mt97 (.int) rfl (rfl) ?_
    exact ⟨rfl, rfl, rfl, rfl⟩
  | succ t ih =>
    intro k a e0 e1
    refine w_iload k97_41 rfl ?_
    refine w_iload_n k97_43 rfl ?_
    refine w_icmp_ge k97_44 (fun h44 => absurd h44 (nI_ge (by omega) (by omega))) (fun h44 => ?_)
    refine w_iload k97_47 rfl ?_
    refine w_iconst k97_49 ?_
    refine w_irem k97_50 (by decide) ?_
    refine w_top (nI (k % 3)) (pk_rem (d := 3) (by omega) (by omega) (by omega)) ?_
    refine w_iconst k97_51 ?_
    refine w_icmp_ne k97_52 (fun h52 => ?_) (fun h52 => ?_)
    ·
      have hz : ¬ k % 3 = 2 := fun hh => h52 (by rw [hh]; rfl)
      refine w_iconst k97_59 ?_
      refine w_iload_n k97_60 rfl ?_
      refine w_imul k97_61 ?_
      refine w_top (nI (4 * a)) (pk_mul 4 a) ?_
      refine w_iload_n k97_62 rfl ?_
      refine w_iload_n k97_63 rfl ?_
      refine w_iconst k97_64 ?_
      refine w_isub k97_65 ?_
      refine w_top (nI (L - 1)) (pk_sub (b := 1) (by omega)) ?_
      refine w_iload k97_66 rfl ?_
      refine w_isub k97_68 ?_
      refine w_top (nI (L - 1 - k)) (pk_sub (by omega)) ?_
      refine w_sI k97_69 (by decide) mt96 [_] rfl rfl rfl (mp_power (by omega)) ?_
      refine w_idiv k97_72 (nI_ne0 (Nat.pow_pos (by omega)) (Nat.lt_of_le_of_lt (p4_le (by omega)) (by omega))) ?_
      refine w_top (nI (r / 4 ^ (L - 1 - k))) (pk_div (by omega) (Nat.pow_pos (by omega)) (Nat.lt_of_le_of_lt (p4_le (by omega)) (by omega))) ?_
      refine w_iconst k97_73 ?_
      refine w_irem k97_74 (by decide) ?_
      refine w_top (nI (dg r (L - 1 - k))) (pk_rem (d := 4) (div_lt31 (by omega) _) (by omega) (by omega)) ?_
      refine w_iadd k97_75 ?_
      refine w_top (nI (a * 4 + dg r (L - 1 - k))) (by rw [nI_add, Nat.mul_comm]) ?_
      refine w_istore_n k97_76 (ls' := [_, _, _, _, _, _, _]) rfl ?_
      refine w_iinc k97_77 rfl (ls' := [_, _, _, _, _, _, _]) rfl ?_
      refine w_goto k97_80 ?_
      rw [nI_1]
      have hd4 := dg_lt r (L - 1 - k)
      have hb : dropA r L (t + 1) k a = dropA r L t (k + 1) (if k % 3 = 2 then a else a * 4 + dg r (L - 1 - k)) := rfl
      rw [hb]
      first
        | (rw [if_pos hz]; exact ih (k + 1) a (by omega) (by rw [Nat.pow_succ]; omega))
        | (rw [if_neg hz]; exact ih (k + 1) (a * 4 + dg r (L - 1 - k)) (by omega) (by rw [Nat.pow_succ]; omega))
    ·
      have hz : k % 3 = 2 := (nI_eq (b := 2) (by omega) (by omega)).mp h52
      refine w_iload_n k97_55 rfl ?_
      refine w_goto k97_56 ?_
      refine w_istore_n k97_76 (ls' := [_, _, _, _, _, _, _]) rfl ?_
      refine w_iinc k97_77 rfl (ls' := [_, _, _, _, _, _, _]) rfl ?_
      refine w_goto k97_80 ?_
      rw [nI_1]
      have hd4 := dg_lt r (L - 1 - k)
      have hb : dropA r L (t + 1) k a = dropA r L t (k + 1) (if k % 3 = 2 then a else a * 4 + dg r (L - 1 - k)) := rfl
      rw [hb]
      first
        | (rw [if_pos hz]; exact ih (k + 1) a (by omega) (by rw [Nat.pow_succ]; omega))
        | (rw [if_neg hz]; exact ih (k + 1) (a * 4 + dg r (L - 1 - k)) (by omega) (by rw [Nat.pow_succ]; omega))
set_option maxHeartbeats 1000000 in
theorem ml_deaf {S : Scr} {d : Nat} {f : FF} {g : GG} {n : Nat} {kv r L : Nat} (hr : r < 65536) (hL : L ≤ 8) (hdd : ∀ i, i < L → dg r i ≠ 0) : ∀ (t : Nat) (k a : Nat) (q : Option Value), (t + k = L) → Wp S (d + 1) 97 107 [some (.int (nI kv)), some (.int (nI r)), some (.int (nI L)), none, some (.int (nI a)), some (.int (nI k)), q] [] n f g (Is (some (.int (nI (deafA r t a)))) n f g) := by
  intro t
  induction t with
  | zero =>
    intro k a q e0
    refine w_iload k97_107 rfl ?_
    refine w_iload_n k97_109 rfl ?_
    refine w_icmp_ge k97_110 (fun h110 => ?_) (fun h110 => absurd (nI_le (by omega) (by omega)) h110)
    refine w_iload k97_155 rfl ?_
    refine w_iret k97_157 mt97 (.int) rfl (rfl) ?_
    exact ⟨rfl, rfl, rfl, rfl⟩
  | succ t ih =>
    intro k a q e0
    refine w_iload k97_107 rfl ?_
    refine w_iload_n k97_109 rfl ?_
    refine w_icmp_ge k97_110 (fun h110 => absurd h110 (nI_ge (by omega) (by omega))) (fun h110 => ?_)
    refine w_iload_n k97_113 rfl ?_
    refine w_iload_n k97_114 rfl ?_
    refine w_iconst k97_115 ?_
    refine w_isub k97_116 ?_
    refine w_top (nI (L - 1)) (pk_sub (b := 1) (by omega)) ?_
    refine w_iload k97_117 rfl ?_
    refine w_isub k97_119 ?_
    refine w_top (nI (L - 1 - k)) (pk_sub (by omega)) ?_
    refine w_sI k97_120 (by decide) mt96 [_] rfl rfl rfl (mp_power (by omega)) ?_
    refine w_idiv k97_123 (nI_ne0 (Nat.pow_pos (by omega)) (Nat.lt_of_le_of_lt (p4_le (by omega)) (by omega))) ?_
    refine w_top (nI (r / 4 ^ (L - 1 - k))) (pk_div (by omega) (Nat.pow_pos (by omega)) (Nat.lt_of_le_of_lt (p4_le (by omega)) (by omega))) ?_
    refine w_iconst k97_124 ?_
    refine w_irem k97_125 (by decide) ?_
    refine w_top (nI (dg r (L - 1 - k))) (pk_rem (d := 4) (div_lt31 (by omega) _) (by omega) (by omega)) ?_
    have hd4 := dg_lt r (L - 1 - k)
    have hd0 := hdd (L - 1 - k) (by omega)
    have ht : L - 1 - k = t := by omega
    rw [ht] at hd4 hd0
    rw [ht]
    refine w_istore k97_126 (ls' := [_, _, _, _, _, _, _]) rfl ?_
    refine w_iconst k97_128 ?_
    refine w_iload k97_129 rfl ?_
    refine w_imul k97_131 ?_
    refine w_top (nI (4 * a)) (pk_mul 4 a) ?_
    refine w_iload k97_132 rfl ?_
    refine w_iconst k97_134 ?_
    refine w_icmp_ne k97_135 (fun h135 => ?_) (fun h135 => ?_)
    ·
      have z1 : ¬ dg r t = 3 := fun hh => h135 (by rw [hh]; rfl)
      refine w_iconst k97_142 ?_
      refine w_iload k97_143 rfl ?_
      refine w_isub k97_145 ?_
      refine w_top (nI (3 - dg r t)) (pk_sub (a := 3) (by omega)) ?_
      refine w_iadd k97_146 ?_
      refine w_top (nI (a * 4 + sw (dg r t))) (by first | (rw [show sw (dg r t) = 3 from by rw [z1]; rfl, ← nI_add, Nat.mul_comm]; rfl)   | (rw [show sw (dg r t) = 3 - dg r t from by unfold sw; split; omega; split <;> omega, ← nI_add, Nat.mul_comm])) ?_
      refine w_istore k97_147 (ls' := [_, _, _, _, _, _, _]) rfl ?_
      refine w_iinc k97_149 rfl (ls' := [_, _, _, _, _, _, _]) rfl ?_
      refine w_goto k97_152 ?_
      rw [nI_1]
      exact ih (k + 1) _ _ (by omega)
    ·
      have z1 : dg r t = 3 := (nI_eq (b := 3) (by omega) (by omega)).mp h135
      refine w_iconst k97_138 ?_
      refine w_goto k97_139 ?_
      refine w_iadd k97_146 ?_
      refine w_top (nI (a * 4 + sw (dg r t))) (by first | (rw [show sw (dg r t) = 3 from by rw [z1]; rfl, ← nI_add, Nat.mul_comm]; rfl)   | (rw [show sw (dg r t) = 3 - dg r t from by unfold sw; split; omega; split <;> omega, ← nI_add, Nat.mul_comm])) ?_
      refine w_istore k97_147 (ls' := [_, _, _, _, _, _, _]) rfl ?_
      refine w_iinc k97_149 rfl (ls' := [_, _, _, _, _, _, _]) rfl ?_
      refine w_goto k97_152 ?_
      rw [nI_1]
      exact ih (k + 1) _ _ (by omega)
set_option maxHeartbeats 1000000 in
theorem mp_knitBy {S : Scr} {d : Nat} {f : FF} {g : GG} {n : Nat} {k r : Nat} (hk : k ≤ 4) (h : RowOk r) : Wp S (d + 1) 97 0 [some (.int (nI k)), some (.int (nI r)), none, none, none, none, none] [] n f g (Is (some (.int (nI (kn k r)))) n f g) := by
  refine w_iload_n k97_0 rfl ?_
  have hr := h.lt
  have h8 := rlen_le r
  have h0 := h.len0
  refine w_sI k97_1 (by decide) mt95 [_] rfl rfl rfl (mp_lengthOf hr) ?_
  refine w_istore_n k97_4 (ls' := [_, _, _, _, _, _, _]) rfl ?_
  refine w_iload_n k97_5 rfl ?_
  rcases (show k = 0 ∨ k = 1 ∨ k = 2 ∨ k = 3 ∨ k = 4 by omega) with rfl | rfl | rfl | rfl | rfl
  ·
    refine w_tsw k97_6 (t := 174) (by decide) ?_
    refine w_iload_n k97_174 rfl ?_
    refine w_iret k97_175 mt97 (.int) rfl (rfl) ?_
    refine ⟨?_, rfl, rfl, rfl⟩
    first
      | rfl
      | (simp [kn, hz]; done)
      | (simp [kn, hz]; rfl)
  ·
    refine w_tsw k97_6 (t := 36) (by decide) ?_
    refine w_iconst k97_36 ?_
    refine w_istore_n k97_37 (ls' := [_, _, _, _, _, _, _]) rfl ?_
    refine w_iconst k97_38 ?_
    refine w_istore k97_39 (ls' := [_, _, _, _, _, _, _]) rfl ?_
    exact ml_third hr h8 _ 0 0 (by omega) (by omega)
  ·
    refine w_tsw k97_6 (t := 85) (by decide) ?_
    refine w_iload_n k97_85 rfl ?_
    refine w_bipush k97_86 ?_
    refine w_icmp_ge k97_88 (fun h88 => ?_) (fun h88 => ?_)
    ·
      have hz : ¬ rlen r < 8 := by
        have := (nI_leI (a := 8) (by omega) (by omega)).mp h88
        omega
      refine w_iload_n k97_99 rfl ?_
      refine w_iret k97_100 mt97 (.int) rfl (rfl) ?_
      refine ⟨?_, rfl, rfl, rfl⟩
      first
        | rfl
        | (simp [kn, hz]; done)
        | (simp [kn, hz]; rfl)
    ·
      have hz : rlen r < 8 := Nat.not_le.mp fun hh => h88 (nI_le (a := 8) hh (by omega))
      refine w_iconst k97_91 ?_
      refine w_iload_n k97_92 rfl ?_
      refine w_imul k97_93 ?_
      refine w_top (nI (r * 4)) (by rw [Nat.mul_comm]; exact pk_mul 4 r) ?_
      refine w_iconst k97_94 ?_
      refine w_iadd k97_95 ?_
      refine w_top (nI (r * 4 + 2)) (nI_add _ 2) ?_
      refine w_goto k97_96 ?_
      refine w_iret k97_100 mt97 (.int) rfl (rfl) ?_
      refine ⟨?_, rfl, rfl, rfl⟩
      first
        | rfl
        | (simp [kn, hz]; done)
        | (simp [kn, hz]; rfl)
  ·
    refine w_tsw k97_6 (t := 101) (by decide) ?_
    refine w_iconst k97_101 ?_
    refine w_istore k97_102 (ls' := [_, _, _, _, _, _, _]) rfl ?_
    refine w_iconst k97_104 ?_
    refine w_istore k97_105 (ls' := [_, _, _, _, _, _, _]) rfl ?_
    exact ml_deaf hr h8 (fun i hi => h.dg hi) _ 0 0 none (by omega)
  ·
    refine w_tsw k97_6 (t := 158) (by decide) ?_
    refine w_iload_n k97_158 rfl ?_
    refine w_if_ne k97_159 (fun h159 => ?_) (fun h159 => ?_)
    ·
      have hz : ¬ r = 0 := fun hh => h159 (by rw [h0.mpr hh]; rfl)
      refine w_iload_n k97_166 rfl ?_
      refine w_iload_n k97_167 rfl ?_
      refine w_iconst k97_168 ?_
      refine w_irem k97_169 (by decide) ?_
      refine w_top (nI (r % 4)) (pk_rem (d := 4) (by omega) (by omega) (by omega)) ?_
      refine w_isub k97_170 ?_
      refine w_top (nI (r - r % 4)) (pk_sub (Nat.mod_le _ _)) ?_
      refine w_iconst k97_171 ?_
      refine w_iadd k97_172 ?_
      refine w_top (nI (r / 4 * 4 + 3)) (by rw [show r / 4 * 4 = r - r % 4 by omega]; exact nI_add _ 3) ?_
      refine w_iret k97_173 mt97 (.int) rfl (rfl) ?_
      refine ⟨?_, rfl, rfl, rfl⟩
      first
        | rfl
        | (simp [kn, hz]; done)
        | (simp [kn, hz]; rfl)
    ·
      have hz : r = 0 := h0.mp ((nI_eq (b := 0) (by omega) (by omega)).mp h159)
      refine w_iconst k97_162 ?_
      refine w_goto k97_163 ?_
      refine w_iret k97_173 mt97 (.int) rfl (rfl) ?_
      refine ⟨?_, rfl, rfl, rfl⟩
      first
        | rfl
        | (simp [kn, hz]; done)
        | (simp [kn, hz]; rfl)
end
