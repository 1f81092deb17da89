/-! SPECS, 20: write, knit, chair, message, undo, comes, out, see, forget, count -/
theorem i32_nI (x : Int32) (h : 0 ≤ x) : x = nI x.toNatClampNeg := by
  have h1 : (0 : Int) ≤ x.toInt := Int32.le_iff_toInt_le.mp h
  apply Int32.toInt_inj.mp
  have h2 := Int32.toInt_lt x
  have h3 : (nI x.toNatClampNeg).toInt = (x.toNatClampNeg : Int) := Int32.toInt_ofNat_of_lt (by show x.toInt.toNat < 2 ^ 31; omega)
  rw [h3]
  show x.toInt = ((x.toInt.toNat : Nat) : Int)
  omega
theorem in_nI {x : Int32} {N : Nat} (hN : N < 2 ^ 31) (h : 0 ≤ x ∧ x < nI N) : ∃ c, c < N ∧ x = nI c := by
  have e := i32_nI x h.1
  refine ⟨x.toNatClampNeg, ?_, e⟩
  have h2 := h.2
  rw [e] at h2
  refine (nI_ltI ?_ hN).mp h2
  show x.toInt.toNat < 2 ^ 31
  have := Int32.toInt_lt x
  omega
theorem bt_nI {x : Int32} {a b : Nat} (hb : b < 2 ^ 31) (ha : a < 2 ^ 31) (h : nI a ≤ x ∧ x ≤ nI b) : ∃ c, a ≤ c ∧ c ≤ b ∧ x = nI c := by
  have h0 : 0 ≤ x := Int32.le_trans (nI_pos' ha) h.1
  have e := i32_nI x h0
  have hl : x.toNatClampNeg < 2 ^ 31 := by
    show x.toInt.toNat < 2 ^ 31
    have := Int32.toInt_lt x
    omega
  have h1 := h.1
  have h2 := h.2
  rw [e] at h1 h2
  exact ⟨_, (nI_leI ha hl).mp h1, (nI_leI hl hb).mp h2, e⟩
theorem CQ.same {n : Nat} {f : FF} {g : GG} {a : Int32} {tx : Nat → Nat} {tl : Nat} {V : Va} {M : Nat → Nat → Nat} {uN : Nat} {uL : Nat → Nat → Nat → Nat} {kN : Nat} {kL : Nat → Nat → Nat → Nat} {sn : Nat} {se : Nat → Nat → Nat} (hR : CR n f g tx tl V M uN uL kN kL sn se) : CQ n f g a tx tl V M uN uL kN kL sn se (some (.int a)) n f g := ⟨rfl, rfl, fun _ _ => rfl, fun _ _ => rfl, hR⟩
theorem sp_Ladd2 {S : Scr} {d : Nat} {f : FF} {g : GG} {n tl : Nat} {tx : Nat → Nat} (hn : 137 ≤ n) (G : GOk g) (hL : CLe f tx tl) {c : Nat} : Wp S (d + 1) 16 0 [some (.ref 2), some (.int (nI c))] [] n f g (fun v n' f' g' => v = some (.int (bI (decide (tl < 200)))) ∧ n' = n ∧ g' = g ∧ (∀ x, x ≠ 2 → x ≠ 3 → f' x = f x) ∧ CLe f' (if tl < 200 then txA tx tl c else tx) (if tl < 200 then tl + 1 else tl)) := by
  refine (sp_Ladd hn G hL).mono ?_
  rintro v n' f' g' ⟨rfl, rfl, h1, h2⟩
  by_cases hz : tl < 200
  · rw [if_pos hz] at h2 ⊢
    rw [if_pos hz, decide_eq_true hz]
    exact ⟨h2.1, rfl, rfl, h1, h2.2⟩
  · rw [if_neg hz] at h2 ⊢
    rw [if_neg hz, decide_eq_false hz]
    exact ⟨h2.1, rfl, rfl, h1, h2.2⟩
set_option maxHeartbeats 1000000 in
theorem sp_write {S : Scr} {d : Nat} {f : FF} {g : GG} {n B : Nat} {tx : Nat → Nat} {tl : Nat} {V : Va} {M : Nat → Nat → Nat} {uN : Nat} {uL : Nat → Nat → Nat → Nat} {kN : Nat} {kL : Nat → Nat → Nat → Nat} {sn : Nat} {se : Nat → Nat → Nat} (hn : 137 ≤ n) (G : GOk g) (hR : CR n f g tx tl V M uN uL kN kL sn se) (hW : StW B tx tl V M uN uL kN kL sn se) {c : Nat} (h1 : 32 ≤ c) (h2 : c ≤ 126) : Wp S (d + 2) 58 0 [some (.ref 0), some (.int (nI c))] [] n f g (CQ n f g (if tl < 200 then nI (tl + 1) else -3) (if tl < 200 then txA tx tl c else tx) (if tl < 200 then tl + 1 else tl) V M uN uL kN kL sn se) := by
  have h200 := hR.2.1.2.1
  have hC := hR.2.2.1
  have hA := hR.2.2.2.1
  have hK := hR.2.2.2.2.2.1
  have hS := hR.2.2.2.2.2.2
  have hV := hW.2.1
  have hM := hW.2.2.1.1
  have h9 := hV.1
  have hm6 := hM.1
  have hmt := hM.2.1
  have hmi := hM.2.2.1
  refine w_iload_n k58_0 rfl ?_
  refine w_bipush k58_1 ?_
  refine w_bipush k58_3 ?_
  refine w_sI k58_5 (by decide) mt22 [_, _, _] rfl rfl rfl (sp_isBetween _ _ _) ?_
  refine w_if_ne k58_8 (fun h8 => ?_) (fun h8 => absurd h8 (bI_n0.mpr (decide_eq_true ⟨(nI_leI (a := 32) (by omega) (by omega)).mpr h1, (nI_leI (b := 126) (by omega) (by omega)).mpr h2⟩)))
  refine w_aload_n k58_13 rfl rfl ?_
  refine w_getr k58_14 (k := 1) (kc0 hn) (by decide) (r0_1 G) ?_
  refine w_iload_n k58_17 rfl ?_
  refine w_vA k58_18 mt16 (kc2 hn) ⟨rfl, by decide⟩ [_] rfl rfl rfl (sp_Ladd2 hn G hR.2.1) ?_
  rintro _ _ f2 _ ⟨rfl, rfl, rfl, hO, hL2⟩
  refine w_if_eq k58_21 (fun h21 => ?_) (fun h21 => ?_)
  ·
    have hz := of_decide_eq_false (bI_0.mp h21)
    rw [if_neg hz, if_neg hz] at hL2
    refine w_bipush k58_34 ?_
    refine w_iret k58_36 mt58 (.int) rfl (rfl) ?_
    first
      | (rw [if_pos hz, if_pos hz, if_pos hz]; exact ⟨rfl, rfl, fun x hx => hO x (by omega) (by omega), fun _ _ => rfl, hR.le hW hO hL2⟩)
      | (rw [if_neg hz, if_neg hz, if_neg hz]; exact ⟨rfl, rfl, fun x hx => hO x (by omega) (by omega), fun _ _ => rfl, hR.le hW hO hL2⟩)
  ·
    have hz := of_decide_eq_true (bI_n0.mp h21)
    rw [if_pos hz, if_pos hz] at hL2
    refine w_aload_n k58_24 rfl rfl ?_
    refine w_getr k58_25 (k := 1) (kc0 hn) (by decide) (r0_1 G) ?_
    refine w_vI k58_28 mt19 (kc2 hn) ⟨rfl, by decide⟩ [] rfl rfl rfl (sp_Llen hn hL2) ?_
    refine w_goto k58_31 ?_
    refine w_iret k58_36 mt58 (.int) rfl (rfl) ?_
    first
      | (rw [if_pos hz, if_pos hz, if_pos hz]; exact ⟨rfl, rfl, fun x hx => hO x (by omega) (by omega), fun _ _ => rfl, hR.le hW hO hL2⟩)
      | (rw [if_neg hz, if_neg hz, if_neg hz]; exact ⟨rfl, rfl, fun x hx => hO x (by omega) (by omega), fun _ _ => rfl, hR.le hW hO hL2⟩)
set_option maxHeartbeats 1000000 in
theorem sp_write0 {S : Scr} {d : Nat} {f : FF} {g : GG} {n B : Nat} {tx : Nat → Nat} {tl : Nat} {V : Va} {M : Nat → Nat → Nat} {uN : Nat} {uL : Nat → Nat → Nat → Nat} {kN : Nat} {kL : Nat → Nat → Nat → Nat} {sn : Nat} {se : Nat → Nat → Nat} (hn : 137 ≤ n) (G : GOk g) (hR : CR n f g tx tl V M uN uL kN kL sn se) (hW : StW B tx tl V M uN uL kN kL sn se) {x : Int32} (hb : ¬ (32 ≤ x ∧ x ≤ 126)) : Wp S (d + 2) 58 0 [some (.ref 0), some (.int x)] [] n f g (CQ n f g (-1) tx tl V M uN uL kN kL sn se) := by
  have h200 := hR.2.1.2.1
  have hC := hR.2.2.1
  have hA := hR.2.2.2.1
  have hK := hR.2.2.2.2.2.1
  have hS := hR.2.2.2.2.2.2
  have hV := hW.2.1
  have hM := hW.2.2.1.1
  have h9 := hV.1
  have hm6 := hM.1
  have hmt := hM.2.1
  have hmi := hM.2.2.1
  refine w_iload_n k58_0 rfl ?_
  refine w_bipush k58_1 ?_
  refine w_bipush k58_3 ?_
  refine w_sI k58_5 (by decide) mt22 [_, _, _] rfl rfl rfl (sp_isBetween _ _ _) ?_
  refine w_if_ne k58_8 (fun h8 => absurd (bI_0.mpr (decide_eq_false hb)) h8) (fun h8 => ?_)
  refine w_iconst k58_11 ?_
  refine w_iret k58_12 mt58 (.int) rfl (rfl) ?_
  exact CQ.same hR
set_option maxHeartbeats 1000000 in
theorem sp_knit {S : Scr} {d : Nat} {f : FF} {g : GG} {n B : Nat} {tx : Nat → Nat} {tl : Nat} {V : Va} {M : Nat → Nat → Nat} {uN : Nat} {uL : Nat → Nat → Nat → Nat} {kN : Nat} {kL : Nat → Nat → Nat → Nat} {sn : Nat} {se : Nat → Nat → Nat} (hn : 137 ≤ n) (G : GOk g) (hR : CR n f g tx tl V M uN uL kN kL sn se) (hW : StW B tx tl V M uN uL kN kL sn se) {c r : Nat} (hc : c < V.1) (hr : RowOk r) (hr0 : isRow0 (nI r) = true) : Wp S (d + 3) 93 0 [some (.ref 0), some (.int (nI c)), some (.int (nI r))] [] n f g (CQ n f g (nI (kn (V.2.1 c) r)) tx tl V M uN uL kN kL sn se) := by
  have h200 := hR.2.1.2.1
  have hC := hR.2.2.1
  have hA := hR.2.2.2.1
  have hK := hR.2.2.2.2.2.1
  have hS := hR.2.2.2.2.2.2
  have hV := hW.2.1
  have hM := hW.2.2.1.1
  have h9 := hV.1
  have hm6 := hM.1
  have hmt := hM.2.1
  have hmi := hM.2.2.1
  refine w_aload_n k93_0 rfl rfl ?_
  refine w_getr k93_1 (k := 2) (kc0 hn) (by decide) (r0_2 G) ?_
  refine w_iload_n k93_4 rfl ?_
  refine w_vI k93_5 mt29 (kc17 hn) ⟨rfl, by decide⟩ [_] rfl rfl rfl (sp_Vhas (va17 hn G) hC h9 _) ?_
  rw [has_dec (by omega) (by omega)]
  refine w_if_eq k93_8 (fun h8 => absurd h8 (bI_n0.mpr (decide_eq_true hc))) (fun h8 => ?_)
  refine w_iload_n k93_11 rfl ?_
  refine w_sI k93_12 (by decide) mt89 [_] rfl rfl rfl (sp_isRowOrEmpty _) ?_
  refine w_if_ne k93_15 (fun h15 => ?_) (fun h15 => absurd h15 (bI_n0.mpr hr0))
  refine w_aload_n k93_20 rfl rfl ?_
  refine w_getr k93_21 (k := 2) (kc0 hn) (by decide) (r0_2 G) ?_
  refine w_iload_n k93_24 rfl ?_
  refine w_vI k93_25 mt41 (kc17 hn) ⟨rfl, by decide⟩ [_] rfl rfl rfl (sp_kindOf (va17 hn G) hC h9 hc) ?_
  refine w_iload_n k93_28 rfl ?_
  refine w_sI k93_29 (by decide) mt92 [_, _] rfl rfl rfl (sp_knitted (hV.2 c hc).1 hr.lt) ?_
  refine w_iret k93_32 mt93 (.int) rfl (rfl) ?_
  exact CQ.same hR
set_option maxHeartbeats 1000000 in
theorem sp_knit0 {S : Scr} {d : Nat} {f : FF} {g : GG} {n B : Nat} {tx : Nat → Nat} {tl : Nat} {V : Va} {M : Nat → Nat → Nat} {uN : Nat} {uL : Nat → Nat → Nat → Nat} {kN : Nat} {kL : Nat → Nat → Nat → Nat} {sn : Nat} {se : Nat → Nat → Nat} (hn : 137 ≤ n) (G : GOk g) (hR : CR n f g tx tl V M uN uL kN kL sn se) (hW : StW B tx tl V M uN uL kN kL sn se) {x y : Int32} (hb : ¬ ((0 ≤ x ∧ x < nI V.1) ∧ isRow0 y = true)) : Wp S (d + 3) 93 0 [some (.ref 0), some (.int x), some (.int y)] [] n f g (CQ n f g (-1) tx tl V M uN uL kN kL sn se) := by
  have h200 := hR.2.1.2.1
  have hC := hR.2.2.1
  have hA := hR.2.2.2.1
  have hK := hR.2.2.2.2.2.1
  have hS := hR.2.2.2.2.2.2
  have hV := hW.2.1
  have hM := hW.2.2.1.1
  have h9 := hV.1
  have hm6 := hM.1
  have hmt := hM.2.1
  have hmi := hM.2.2.1
  refine w_aload_n k93_0 rfl rfl ?_
  refine w_getr k93_1 (k := 2) (kc0 hn) (by decide) (r0_2 G) ?_
  refine w_iload_n k93_4 rfl ?_
  refine w_vI k93_5 mt29 (kc17 hn) ⟨rfl, by decide⟩ [_] rfl rfl rfl (sp_Vhas (va17 hn G) hC h9 _) ?_
  refine w_if_eq k93_8 (fun h8 => ?_) (fun h8 => ?_)
  ·
    refine w_iconst k93_18 ?_
    refine w_iret k93_19 mt93 (.int) rfl (rfl) ?_
    exact CQ.same hR
  ·
    have x8 := of_decide_eq_true (bI_n0.mp h8)
    refine w_iload_n k93_11 rfl ?_
    refine w_sI k93_12 (by decide) mt89 [_] rfl rfl rfl (sp_isRowOrEmpty _) ?_
    refine w_if_ne k93_15 (fun h15 => absurd (bI_0.mpr (Bool.eq_false_iff.mpr fun hh => hb ⟨x8, hh⟩)) h15) (fun h15 => ?_)
    refine w_iconst k93_18 ?_
    refine w_iret k93_19 mt93 (.int) rfl (rfl) ?_
    exact CQ.same hR
theorem tsw_out {pc : Nat} {d lo hi : Int} {offs : Array Int} {x : Int32} (h : x.toInt < lo ∨ hi < x.toInt) : tsw pc d lo hi offs x = some ((pc : Int) + d).toNat := by
  unfold tsw
  rw [if_pos h]
theorem out_I {x : Int32} {b : Nat} (hb : b < 2 ^ 31) (h : ¬ (0 ≤ x ∧ x ≤ nI b)) : x.toInt < 0 ∨ (b : Int) < x.toInt := by
  have e : (nI b).toInt = (b : Int) := Int32.toInt_ofNat_of_lt hb
  by_cases h1 : 0 ≤ x
  · right
    have h2 : ¬ x ≤ nI b := fun hh => h ⟨h1, hh⟩
    have h3 := Int32.not_le.mp h2
    have h4 := Int32.lt_iff_toInt_lt.mp h3
    rw [e] at h4
    exact h4
  · left
    have h3 := Int32.not_le.mp h1
    have h4 := Int32.lt_iff_toInt_lt.mp h3
    exact h4
/-- what chair tells -/
def chW (V : Va) (M : Nat → Nat → Nat) (c w : Nat) : Nat := if w = 0 then V.2.1 c else if w = 1 then V.2.2.1 c else if w = 2 then V.2.2.2 c else if w = 3 then (if (M 0 1).testBit c = true then 1 else 0) else howAt M c (M 0 2) 0 0
theorem MoW.l12 {V : Va} {M : Nat → Nat → Nat} (h : MoW V M) (h9 : V.1 ≤ 9) : ∀ m, m < M 0 2 → M (m + 1) 1 < 2 ^ 31 ∧ M (m + 1) 2 < 2 ^ 31 := fun m hm => by
  have := h.2.2.2 m hm
  have h1 := this.2.1
  have h2 := this.2.2.1
  omega
set_option maxHeartbeats 1000000 in
theorem sp_chair {S : Scr} {d : Nat} {f : FF} {g : GG} {n B : Nat} {tx : Nat → Nat} {tl : Nat} {V : Va} {M : Nat → Nat → Nat} {uN : Nat} {uL : Nat → Nat → Nat → Nat} {kN : Nat} {kL : Nat → Nat → Nat → Nat} {sn : Nat} {se : Nat → Nat → Nat} (hn : 137 ≤ n) (G : GOk g) (hR : CR n f g tx tl V M uN uL kN kL sn se) (hW : StW B tx tl V M uN uL kN kL sn se) {c w : Nat} (hc : c < V.1) (hw : w < 5) : Wp S (d + 2) 77 0 [some (.ref 0), some (.int (nI c)), some (.int (nI w))] [] n f g (CQ n f g (nI (chW V M c w)) tx tl V M uN uL kN kL sn se) := by
  have h200 := hR.2.1.2.1
  have hC := hR.2.2.1
  have hA := hR.2.2.2.1
  have hK := hR.2.2.2.2.2.1
  have hS := hR.2.2.2.2.2.2
  have hV := hW.2.1
  have hM := hW.2.2.1.1
  have h9 := hV.1
  have hm6 := hM.1
  have hmt := hM.2.1
  have hmi := hM.2.2.1
  refine w_aload_n k77_0 rfl rfl ?_
  refine w_getr k77_1 (k := 2) (kc0 hn) (by decide) (r0_2 G) ?_
  refine w_iload_n k77_4 rfl ?_
  refine w_vI k77_5 mt29 (kc17 hn) ⟨rfl, by decide⟩ [_] rfl rfl rfl (sp_Vhas (va17 hn G) hC h9 _) ?_
  rw [has_dec (by omega) (by omega)]
  refine w_if_ne k77_8 (fun h8 => ?_) (fun h8 => absurd h8 (bI_n0.mpr (decide_eq_true hc)))
  refine w_iload_n k77_13 rfl ?_
  rcases (show w = 0 ∨ w = 1 ∨ w = 2 ∨ w = 3 ∨ w = 4 by omega) with rfl | rfl | rfl | rfl | rfl
  ·
    refine w_tsw k77_14 (t := 48) (by decide) ?_
    refine w_aload_n k77_48 rfl rfl ?_
    refine w_getr k77_49 (k := 2) (kc0 hn) (by decide) (r0_2 G) ?_
    refine w_iload_n k77_52 rfl ?_
    refine w_vI k77_53 mt41 (kc17 hn) ⟨rfl, by decide⟩ [_] rfl rfl rfl (sp_kindOf (va17 hn G) hC h9 hc) ?_
    refine w_iret k77_56 mt77 (.int) rfl (rfl) ?_
    first
      | (rw [hz]; exact CQ.same hR)
      | exact CQ.same hR
  ·
    refine w_tsw k77_14 (t := 57) (by decide) ?_
    refine w_aload_n k77_57 rfl rfl ?_
    refine w_getr k77_58 (k := 2) (kc0 hn) (by decide) (r0_2 G) ?_
    refine w_iload_n k77_61 rfl ?_
    refine w_vI k77_62 mt42 (kc17 hn) ⟨rfl, by decide⟩ [_] rfl rfl rfl (sp_paceOf (va17 hn G) hC h9 hc) ?_
    refine w_iret k77_65 mt77 (.int) rfl (rfl) ?_
    first
      | (rw [hz]; exact CQ.same hR)
      | exact CQ.same hR
  ·
    refine w_tsw k77_14 (t := 66) (by decide) ?_
    refine w_aload_n k77_66 rfl rfl ?_
    refine w_getr k77_67 (k := 2) (kc0 hn) (by decide) (r0_2 G) ?_
    refine w_iload_n k77_70 rfl ?_
    refine w_vI k77_71 mt43 (kc17 hn) ⟨rfl, by decide⟩ [_] rfl rfl rfl (sp_nextOf (va17 hn G) hC h9 hc) ?_
    refine w_iret k77_74 mt77 (.int) rfl (rfl) ?_
    first
      | (rw [hz]; exact CQ.same hR)
      | exact CQ.same hR
  ·
    refine w_tsw k77_14 (t := 75) (by decide) ?_
    refine w_aload_n k77_75 rfl rfl ?_
    refine w_getr k77_76 (k := 3) (kc0 hn) (by decide) (r0_3 G) ?_
    refine w_iload_n k77_79 rfl ?_
    refine w_vI k77_80 mt35 (kc21 hn) ⟨rfl, by decide⟩ [_] rfl rfl rfl (sp_isIndoors (mo21 hn G) hA hmi (by omega)) ?_
    refine w_if_eq k77_83 (fun h83 => ?_) (fun h83 => ?_)
    ·
      have hz : chW V M c 3 = 0 := by
        have := bI_0.mp h83
        simp [chW, this]
      refine w_iconst k77_90 ?_
      refine w_iret k77_91 mt77 (.int) rfl (rfl) ?_
      first
        | (rw [hz]; exact CQ.same hR)
        | exact CQ.same hR
    ·
      have hz : chW V M c 3 = 1 := by
        have := bI_n0.mp h83
        simp [chW, this]
      refine w_iconst k77_86 ?_
      refine w_goto k77_87 ?_
      refine w_iret k77_91 mt77 (.int) rfl (rfl) ?_
      first
        | (rw [hz]; exact CQ.same hR)
        | exact CQ.same hR
  ·
    refine w_tsw k77_14 (t := 92) (by decide) ?_
    refine w_aload_n k77_92 rfl rfl ?_
    refine w_getr k77_93 (k := 3) (kc0 hn) (by decide) (r0_3 G) ?_
    refine w_iload_n k77_96 rfl ?_
    refine w_vI k77_97 mt76 (kc21 hn) ⟨rfl, by decide⟩ [_] rfl rfl rfl (sp_howAt (mo21 hn G) hA hm6 (hM.l12 h9) c (by omega)) ?_
    refine w_iret k77_100 mt77 (.int) rfl (rfl) ?_
    first
      | (rw [hz]; exact CQ.same hR)
      | exact CQ.same hR
set_option maxHeartbeats 1000000 in
theorem sp_chair0 {S : Scr} {d : Nat} {f : FF} {g : GG} {n B : Nat} {tx : Nat → Nat} {tl : Nat} {V : Va} {M : Nat → Nat → Nat} {uN : Nat} {uL : Nat → Nat → Nat → Nat} {kN : Nat} {kL : Nat → Nat → Nat → Nat} {sn : Nat} {se : Nat → Nat → Nat} (hn : 137 ≤ n) (G : GOk g) (hR : CR n f g tx tl V M uN uL kN kL sn se) (hW : StW B tx tl V M uN uL kN kL sn se) {x y : Int32} (hb : ¬ (0 ≤ x ∧ x < nI V.1)) : Wp S (d + 2) 77 0 [some (.ref 0), some (.int x), some (.int y)] [] n f g (CQ n f g (-1) tx tl V M uN uL kN kL sn se) := by
  have h200 := hR.2.1.2.1
  have hC := hR.2.2.1
  have hA := hR.2.2.2.1
  have hK := hR.2.2.2.2.2.1
  have hS := hR.2.2.2.2.2.2
  have hV := hW.2.1
  have hM := hW.2.2.1.1
  have h9 := hV.1
  have hm6 := hM.1
  have hmt := hM.2.1
  have hmi := hM.2.2.1
  refine w_aload_n k77_0 rfl rfl ?_
  refine w_getr k77_1 (k := 2) (kc0 hn) (by decide) (r0_2 G) ?_
  refine w_iload_n k77_4 rfl ?_
  refine w_vI k77_5 mt29 (kc17 hn) ⟨rfl, by decide⟩ [_] rfl rfl rfl (sp_Vhas (va17 hn G) hC h9 _) ?_
  refine w_if_ne k77_8 (fun h8 => absurd (bI_0.mpr (decide_eq_false hb)) h8) (fun h8 => ?_)
  refine w_iconst k77_11 ?_
  refine w_iret k77_12 mt77 (.int) rfl (rfl) ?_
  exact CQ.same hR
set_option maxHeartbeats 1000000 in
theorem sp_chair1 {S : Scr} {d : Nat} {f : FF} {g : GG} {n B : Nat} {tx : Nat → Nat} {tl : Nat} {V : Va} {M : Nat → Nat → Nat} {uN : Nat} {uL : Nat → Nat → Nat → Nat} {kN : Nat} {kL : Nat → Nat → Nat → Nat} {sn : Nat} {se : Nat → Nat → Nat} (hn : 137 ≤ n) (G : GOk g) (hR : CR n f g tx tl V M uN uL kN kL sn se) (hW : StW B tx tl V M uN uL kN kL sn se) {c : Nat} {y : Int32} (hc : c < V.1) (hb : ¬ (0 ≤ y ∧ y ≤ nI 4)) : Wp S (d + 2) 77 0 [some (.ref 0), some (.int (nI c)), some (.int y)] [] n f g (CQ n f g (-1) tx tl V M uN uL kN kL sn se) := by
  have h200 := hR.2.1.2.1
  have hC := hR.2.2.1
  have hA := hR.2.2.2.1
  have hK := hR.2.2.2.2.2.1
  have hS := hR.2.2.2.2.2.2
  have hV := hW.2.1
  have hM := hW.2.2.1.1
  have h9 := hV.1
  have hm6 := hM.1
  have hmt := hM.2.1
  have hmi := hM.2.2.1
  refine w_aload_n k77_0 rfl rfl ?_
  refine w_getr k77_1 (k := 2) (kc0 hn) (by decide) (r0_2 G) ?_
  refine w_iload_n k77_4 rfl ?_
  refine w_vI k77_5 mt29 (kc17 hn) ⟨rfl, by decide⟩ [_] rfl rfl rfl (sp_Vhas (va17 hn G) hC h9 _) ?_
  rw [has_dec (by omega) (by omega)]
  refine w_if_ne k77_8 (fun h8 => ?_) (fun h8 => absurd h8 (bI_n0.mpr (decide_eq_true hc)))
  refine w_iload_n k77_13 rfl ?_
  have hq := out_I (by decide) hb
  refine w_tsw k77_14 (t := 101) (tsw_out hq) ?_
  refine w_iconst k77_101 ?_
  refine w_iret k77_102 mt77 (.int) rfl (rfl) ?_
  exact CQ.same hR
/-- what message tells -/
def msV (μ : Nat → Nat) (w : Nat) : Int32 := if w = 5 then (if μ 1 = 2 then nI (μ 5) else -4) else nI (μ w)
set_option maxHeartbeats 1000000 in
theorem sp_message {S : Scr} {d : Nat} {f : FF} {g : GG} {n B : Nat} {tx : Nat → Nat} {tl : Nat} {V : Va} {M : Nat → Nat → Nat} {uN : Nat} {uL : Nat → Nat → Nat → Nat} {kN : Nat} {kL : Nat → Nat → Nat → Nat} {sn : Nat} {se : Nat → Nat → Nat} (hn : 137 ≤ n) (G : GOk g) (hR : CR n f g tx tl V M uN uL kN kL sn se) (hW : StW B tx tl V M uN uL kN kL sn se) {c w : Nat} (hc : c < M 0 2) (hw : w < 6) : Wp S (d + 1) 83 0 [some (.ref 0), some (.int (nI c)), some (.int (nI w)), none] [] n f g (CQ n f g (msV (M (c + 1)) w) tx tl V M uN uL kN kL sn se) := by
  have h200 := hR.2.1.2.1
  have hC := hR.2.2.1
  have hA := hR.2.2.2.1
  have hK := hR.2.2.2.2.2.1
  have hS := hR.2.2.2.2.2.2
  have hV := hW.2.1
  have hM := hW.2.2.1.1
  have h9 := hV.1
  have hm6 := hM.1
  have hmt := hM.2.1
  have hmi := hM.2.2.1
  have hm := hA.2.2.2 c hc
  have hkd := (mo21 hn G).2.2.2.1 c (by omega)
  have hm12 := hM.l12 h9 c hc
  refine w_aload_n k83_0 rfl rfl ?_
  refine w_getr k83_1 (k := 3) (kc0 hn) (by decide) (r0_3 G) ?_
  refine w_iload_n k83_4 rfl ?_
  refine w_vI k83_5 mt82 (kc21 hn) ⟨rfl, by decide⟩ [_] rfl rfl rfl (sp_Mhas (mo21 hn G) hA _) ?_
  rw [has_dec (by omega) (by omega)]
  refine w_if_ne k83_8 (fun h8 => ?_) (fun h8 => absurd h8 (bI_n0.mpr (decide_eq_true hc)))
  refine w_aload_n k83_13 rfl rfl ?_
  refine w_getr k83_14 (k := 3) (kc0 hn) (by decide) (r0_3 G) ?_
  refine w_iload_n k83_17 rfl ?_
  refine w_vI k83_18 mt30 (kc21 hn) ⟨rfl, by decide⟩ [_] rfl rfl rfl (sp_get (j := c) (mo21 hn G) (by omega)) ?_
  refine w_astore_n k83_21 rfl (ls' := [_, _, _, _]) rfl ?_
  refine w_iload_n k83_22 rfl ?_
  rcases (show w = 0 ∨ w = 1 ∨ w = 2 ∨ w = 3 ∨ w = 4 ∨ w = 5 by omega) with rfl | rfl | rfl | rfl | rfl | rfl
  ·
    refine w_tsw k83_23 (t := 60) (by decide) ?_
    refine w_aload_n k83_60 rfl rfl ?_
    refine w_geti k83_61 (k := 0) hkd (by decide) ?_
    rw [hm 0 (by omega)]
    refine w_iret k83_64 mt83 (.int) rfl (rfl) ?_
    first
      | (rw [hz]; exact CQ.same hR)
      | exact CQ.same hR
  ·
    refine w_tsw k83_23 (t := 65) (by decide) ?_
    refine w_aload_n k83_65 rfl rfl ?_
    refine w_geti k83_66 (k := 1) hkd (by decide) ?_
    rw [hm 1 (by omega)]
    refine w_iret k83_69 mt83 (.int) rfl (rfl) ?_
    first
      | (rw [hz]; exact CQ.same hR)
      | exact CQ.same hR
  ·
    refine w_tsw k83_23 (t := 70) (by decide) ?_
    refine w_aload_n k83_70 rfl rfl ?_
    refine w_geti k83_71 (k := 2) hkd (by decide) ?_
    rw [hm 2 (by omega)]
    refine w_iret k83_74 mt83 (.int) rfl (rfl) ?_
    first
      | (rw [hz]; exact CQ.same hR)
      | exact CQ.same hR
  ·
    refine w_tsw k83_23 (t := 75) (by decide) ?_
    refine w_aload_n k83_75 rfl rfl ?_
    refine w_geti k83_76 (k := 3) hkd (by decide) ?_
    rw [hm 3 (by omega)]
    refine w_iret k83_79 mt83 (.int) rfl (rfl) ?_
    first
      | (rw [hz]; exact CQ.same hR)
      | exact CQ.same hR
  ·
    refine w_tsw k83_23 (t := 80) (by decide) ?_
    refine w_aload_n k83_80 rfl rfl ?_
    refine w_geti k83_81 (k := 4) hkd (by decide) ?_
    rw [hm 4 (by omega)]
    refine w_iret k83_84 mt83 (.int) rfl (rfl) ?_
    first
      | (rw [hz]; exact CQ.same hR)
      | exact CQ.same hR
  ·
    refine w_tsw k83_23 (t := 85) (by decide) ?_
    refine w_aload_n k83_85 rfl rfl ?_
    refine w_geti k83_86 (k := 1) hkd (by decide) ?_
    rw [hm 1 (by omega)]
    refine w_iconst k83_89 ?_
    refine w_icmp_ne k83_90 (fun h90 => ?_) (fun h90 => ?_)
    ·
      have hz : msV (M (c + 1)) 5 = -4 := if_neg (show ¬ M (c + 1) 1 = 2 from fun hh => h90 (by rw [hh]; rfl))
      refine w_bipush k83_100 ?_
      refine w_iret k83_102 mt83 (.int) rfl (rfl) ?_
      first
        | (rw [hz]; exact CQ.same hR)
        | exact CQ.same hR
    ·
      have hz : msV (M (c + 1)) 5 = nI (M (c + 1) 5) := if_pos (show M (c + 1) 1 = 2 from (nI_eq (b := 2) (by omega) (by omega)).mp h90)
      refine w_aload_n k83_93 rfl rfl ?_
      refine w_geti k83_94 (k := 5) hkd (by decide) ?_
      rw [hm 5 (by omega)]
      refine w_goto k83_97 ?_
      refine w_iret k83_102 mt83 (.int) rfl (rfl) ?_
      first
        | (rw [hz]; exact CQ.same hR)
        | exact CQ.same hR
set_option maxHeartbeats 1000000 in
theorem sp_message0 {S : Scr} {d : Nat} {f : FF} {g : GG} {n B : Nat} {tx : Nat → Nat} {tl : Nat} {V : Va} {M : Nat → Nat → Nat} {uN : Nat} {uL : Nat → Nat → Nat → Nat} {kN : Nat} {kL : Nat → Nat → Nat → Nat} {sn : Nat} {se : Nat → Nat → Nat} (hn : 137 ≤ n) (G : GOk g) (hR : CR n f g tx tl V M uN uL kN kL sn se) (hW : StW B tx tl V M uN uL kN kL sn se) {x y : Int32} (hb : ¬ (0 ≤ x ∧ x < nI (M 0 2))) : Wp S (d + 1) 83 0 [some (.ref 0), some (.int x), some (.int y), none] [] n f g (CQ n f g (-1) tx tl V M uN uL kN kL sn se) := by
  have h200 := hR.2.1.2.1
  have hC := hR.2.2.1
  have hA := hR.2.2.2.1
  have hK := hR.2.2.2.2.2.1
  have hS := hR.2.2.2.2.2.2
  have hV := hW.2.1
  have hM := hW.2.2.1.1
  have h9 := hV.1
  have hm6 := hM.1
  have hmt := hM.2.1
  have hmi := hM.2.2.1
  refine w_aload_n k83_0 rfl rfl ?_
  refine w_getr k83_1 (k := 3) (kc0 hn) (by decide) (r0_3 G) ?_
  refine w_iload_n k83_4 rfl ?_
  refine w_vI k83_5 mt82 (kc21 hn) ⟨rfl, by decide⟩ [_] rfl rfl rfl (sp_Mhas (mo21 hn G) hA _) ?_
  refine w_if_ne k83_8 (fun h8 => absurd (bI_0.mpr (decide_eq_false hb)) h8) (fun h8 => ?_)
  refine w_iconst k83_11 ?_
  refine w_iret k83_12 mt83 (.int) rfl (rfl) ?_
  exact CQ.same hR
set_option maxHeartbeats 1000000 in
theorem sp_message1 {S : Scr} {d : Nat} {f : FF} {g : GG} {n B : Nat} {tx : Nat → Nat} {tl : Nat} {V : Va} {M : Nat → Nat → Nat} {uN : Nat} {uL : Nat → Nat → Nat → Nat} {kN : Nat} {kL : Nat → Nat → Nat → Nat} {sn : Nat} {se : Nat → Nat → Nat} (hn : 137 ≤ n) (G : GOk g) (hR : CR n f g tx tl V M uN uL kN kL sn se) (hW : StW B tx tl V M uN uL kN kL sn se) {c : Nat} {y : Int32} (hc : c < M 0 2) (hb : ¬ (0 ≤ y ∧ y ≤ nI 5)) : Wp S (d + 1) 83 0 [some (.ref 0), some (.int (nI c)), some (.int y), none] [] n f g (CQ n f g (-1) tx tl V M uN uL kN kL sn se) := by
  have h200 := hR.2.1.2.1
  have hC := hR.2.2.1
  have hA := hR.2.2.2.1
  have hK := hR.2.2.2.2.2.1
  have hS := hR.2.2.2.2.2.2
  have hV := hW.2.1
  have hM := hW.2.2.1.1
  have h9 := hV.1
  have hm6 := hM.1
  have hmt := hM.2.1
  have hmi := hM.2.2.1
  refine w_aload_n k83_0 rfl rfl ?_
  refine w_getr k83_1 (k := 3) (kc0 hn) (by decide) (r0_3 G) ?_
  refine w_iload_n k83_4 rfl ?_
  refine w_vI k83_5 mt82 (kc21 hn) ⟨rfl, by decide⟩ [_] rfl rfl rfl (sp_Mhas (mo21 hn G) hA _) ?_
  rw [has_dec (by omega) (by omega)]
  refine w_if_ne k83_8 (fun h8 => ?_) (fun h8 => absurd h8 (bI_n0.mpr (decide_eq_true hc)))
  refine w_aload_n k83_13 rfl rfl ?_
  refine w_getr k83_14 (k := 3) (kc0 hn) (by decide) (r0_3 G) ?_
  refine w_iload_n k83_17 rfl ?_
  refine w_vI k83_18 mt30 (kc21 hn) ⟨rfl, by decide⟩ [_] rfl rfl rfl (sp_get (j := c) (mo21 hn G) (by omega)) ?_
  refine w_astore_n k83_21 rfl (ls' := [_, _, _, _]) rfl ?_
  refine w_iload_n k83_22 rfl ?_
  have hq := out_I (by decide) hb
  refine w_tsw k83_23 (t := 103) (tsw_out hq) ?_
  refine w_iconst k83_103 ?_
  refine w_iret k83_104 mt83 (.int) rfl (rfl) ?_
  exact CQ.same hR
set_option maxHeartbeats 1000000 in
theorem sp_comes {S : Scr} {d : Nat} {f : FF} {g : GG} {n B : Nat} {tx : Nat → Nat} {tl : Nat} {V : Va} {M : Nat → Nat → Nat} {uN : Nat} {uL : Nat → Nat → Nat → Nat} {kN : Nat} {kL : Nat → Nat → Nat → Nat} {sn : Nat} {se : Nat → Nat → Nat} (hn : 137 ≤ n) (G : GOk g) (hR : CR n f g tx tl V M uN uL kN kL sn se) (hW : StW B tx tl V M uN uL kN kL sn se) {c r w : Nat} (hc : c < V.1) (hr : RowOk r) (hr0 : isRowI (nI r) = true) (hw : w < 2) : Wp S (d + 5) 129 0 [some (.ref 0), some (.int (nI c)), some (.int (nI r)), some (.int (nI w))] [] n f g (CQ n f g (if w = 0 then nI (cmW V V.2.1 9 c r) else nI (mtS V (wyW V 9 c 0) V.1 0 0)) tx tl V M uN uL kN kL sn se) := by
  have h200 := hR.2.1.2.1
  have hC := hR.2.2.1
  have hA := hR.2.2.2.1
  have hK := hR.2.2.2.2.2.1
  have hS := hR.2.2.2.2.2.2
  have hV := hW.2.1
  have hM := hW.2.2.1.1
  have h9 := hV.1
  have hm6 := hM.1
  have hmt := hM.2.1
  have hmi := hM.2.2.1
  refine w_aload_n k129_0 rfl rfl ?_
  refine w_getr k129_1 (k := 2) (kc0 hn) (by decide) (r0_2 G) ?_
  refine w_iload_n k129_4 rfl ?_
  refine w_vI k129_5 mt29 (kc17 hn) ⟨rfl, by decide⟩ [_] rfl rfl rfl (sp_Vhas (va17 hn G) hC h9 _) ?_
  rw [has_dec (by omega) (by omega)]
  refine w_if_eq k129_8 (fun h8 => absurd h8 (bI_n0.mpr (decide_eq_true hc))) (fun h8 => ?_)
  refine w_iload_n k129_11 rfl ?_
  refine w_sI k129_12 (by decide) mt88 [_] rfl rfl rfl (sp_isRow _) ?_
  refine w_if_eq k129_15 (fun h15 => absurd h15 (bI_n0.mpr hr0)) (fun h15 => ?_)
  refine w_iload_n k129_18 rfl ?_
  refine w_iconst k129_19 ?_
  refine w_iconst k129_20 ?_
  refine w_sI k129_21 (by decide) mt22 [_, _, _] rfl rfl rfl (sp_isBetween _ _ _) ?_
  refine w_if_ne k129_24 (fun h24 => ?_) (fun h24 => absurd h24 (bI_n0.mpr (decide_eq_true ⟨nI_pos' (by omega), (nI_leI (b := 1) (by omega) (by omega)).mpr (by omega)⟩)))
  refine w_iload_n k129_29 rfl ?_
  refine w_if_ne k129_30 (fun h30 => ?_) (fun h30 => ?_)
  ·
    have hz : ¬ w = 0 := fun hh => h30 (by rw [hh]; rfl)
    rw [if_neg hz]
    refine w_aload_n k129_45 rfl rfl ?_
    refine w_getr k129_46 (k := 2) (kc0 hn) (by decide) (r0_2 G) ?_
    refine w_iload_n k129_49 rfl ?_
    refine w_vI k129_50 mt128 (kc17 hn) ⟨rfl, by decide⟩ [_] rfl rfl rfl (sp_minSea (va17 hn G) hC hV hc) ?_
    refine w_iret k129_53 mt129 (.int) rfl (rfl) ?_
    exact CQ.same hR
  ·
    have hz : w = 0 := (nI_eq (b := 0) (by omega) (by omega)).mp h30
    rw [if_pos hz]
    refine w_aload_n k129_33 rfl rfl ?_
    refine w_getr k129_34 (k := 2) (kc0 hn) (by decide) (r0_2 G) ?_
    refine w_iload_n k129_37 rfl ?_
    refine w_iload_n k129_38 rfl ?_
    refine w_vI k129_39 mt126 (kc17 hn) ⟨rfl, by decide⟩ [_, _] rfl rfl rfl (sp_rowAtSea (va17 hn G) hC hV hc hr.lt) ?_
    refine w_goto k129_42 ?_
    refine w_iret k129_53 mt129 (.int) rfl (rfl) ?_
    exact CQ.same hR
set_option maxHeartbeats 1000000 in
theorem sp_comes0 {S : Scr} {d : Nat} {f : FF} {g : GG} {n B : Nat} {tx : Nat → Nat} {tl : Nat} {V : Va} {M : Nat → Nat → Nat} {uN : Nat} {uL : Nat → Nat → Nat → Nat} {kN : Nat} {kL : Nat → Nat → Nat → Nat} {sn : Nat} {se : Nat → Nat → Nat} (hn : 137 ≤ n) (G : GOk g) (hR : CR n f g tx tl V M uN uL kN kL sn se) (hW : StW B tx tl V M uN uL kN kL sn se) {x y z : Int32} (hb : ¬ ((0 ≤ x ∧ x < nI V.1) ∧ isRowI y = true ∧ 0 ≤ z ∧ z ≤ 1)) : Wp S (d + 5) 129 0 [some (.ref 0), some (.int x), some (.int y), some (.int z)] [] n f g (CQ n f g (-1) tx tl V M uN uL kN kL sn se) := by
  have h200 := hR.2.1.2.1
  have hC := hR.2.2.1
  have hA := hR.2.2.2.1
  have hK := hR.2.2.2.2.2.1
  have hS := hR.2.2.2.2.2.2
  have hV := hW.2.1
  have hM := hW.2.2.1.1
  have h9 := hV.1
  have hm6 := hM.1
  have hmt := hM.2.1
  have hmi := hM.2.2.1
  refine w_aload_n k129_0 rfl rfl ?_
  refine w_getr k129_1 (k := 2) (kc0 hn) (by decide) (r0_2 G) ?_
  refine w_iload_n k129_4 rfl ?_
  refine w_vI k129_5 mt29 (kc17 hn) ⟨rfl, by decide⟩ [_] rfl rfl rfl (sp_Vhas (va17 hn G) hC h9 _) ?_
  refine w_if_eq k129_8 (fun h8 => ?_) (fun h8 => ?_)
  ·
    refine w_iconst k129_27 ?_
    refine w_iret k129_28 mt129 (.int) rfl (rfl) ?_
    exact CQ.same hR
  ·
    have x8 := of_decide_eq_true (bI_n0.mp h8)
    refine w_iload_n k129_11 rfl ?_
    refine w_sI k129_12 (by decide) mt88 [_] rfl rfl rfl (sp_isRow _) ?_
    refine w_if_eq k129_15 (fun h15 => ?_) (fun h15 => ?_)
    ·
      refine w_iconst k129_27 ?_
      refine w_iret k129_28 mt129 (.int) rfl (rfl) ?_
      exact CQ.same hR
    ·
      have x15 := bI_n0.mp h15
      refine w_iload_n k129_18 rfl ?_
      refine w_iconst k129_19 ?_
      refine w_iconst k129_20 ?_
      refine w_sI k129_21 (by decide) mt22 [_, _, _] rfl rfl rfl (sp_isBetween _ _ _) ?_
      refine w_if_ne k129_24 (fun h24 => absurd (bI_0.mpr (decide_eq_false fun hh => hb ⟨x8, x15, hh⟩)) h24) (fun h24 => ?_)
      refine w_iconst k129_27 ?_
      refine w_iret k129_28 mt129 (.int) rfl (rfl) ?_
      exact CQ.same hR
