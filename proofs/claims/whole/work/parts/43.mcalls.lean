/-! SPECS, 33: the model's plain calls -/
theorem MRl.le {f f' : FF} {g : GG} {tx : Nat → Nat} {tl : Nat} {V : Va} {M : Nat → Nat → Nat} {uN : Nat} {uL : Nat → Nat → Nat → Nat} {kN : Nat} {kL : Nat → Nat → Nat → Nat} {sn : Nat} {se : Nat → Nat → Nat} (h : MRl f g tx tl V M uN uL kN kL sn se) {tx2 : Nat → Nat} {tl2 : Nat} (ho : ∀ x, x ≠ 138 → x ≠ 137 → f' x = f x) (h7 : ∀ k, k ≠ 0 → f' 137 k = f 137 k) (hl : MLe f' tx2 tl2) : MRl f' g tx2 tl2 V M uN uL kN kL sn se := by
  obtain ⟨g0, g1, g2, g3, ⟨a, u1, u2, u3, u4, u5⟩, g5, g6⟩ := h
  exact ⟨g0, hl, g2.off (h7 12 (by omega)) (ho _ (by omega) (by omega)) (ho _ (by omega) (by omega)) (ho _ (by omega) (by omega)), by rw [ho 148 (by omega) (by omega)]; exact g3, ⟨a, u1, by rw [h7 19 (by omega)]; exact u2, by rw [h7 18 (by omega)]; exact u3, u4, fun i hi => by rw [ho 150 (by omega) (by omega)]; exact u5 i hi⟩, ⟨by rw [h7 23 (by omega)]; exact g5.1, g5.2.1, fun i hi => by rw [ho 152 (by omega) (by omega)]; exact g5.2.2 i hi⟩, ⟨by rw [h7 21 (by omega)]; exact g6.1, g6.2.1, fun i hi => by rw [ho 151 (by omega) (by omega)]; exact g6.2.2 i hi⟩⟩
theorem MRl.se {f f' : FF} {g : GG} {tx : Nat → Nat} {tl : Nat} {V : Va} {M : Nat → Nat → Nat} {uN : Nat} {uL : Nat → Nat → Nat → Nat} {kN : Nat} {kL : Nat → Nat → Nat → Nat} {sn : Nat} {se : Nat → Nat → Nat} (h : MRl f g tx tl V M uN uL kN kL sn se) {sn2 : Nat} {se2 : Nat → Nat → Nat} (ho : ∀ x, x ≠ 151 → x ≠ 137 → f' x = f x) (h7 : ∀ k, k ≠ 21 → f' 137 k = f 137 k) (hs : MSe f' sn2 se2) : MRl f' g tx tl V M uN uL kN kL sn2 se2 := by
  obtain ⟨g0, g1, g2, g3, ⟨a, u1, u2, u3, u4, u5⟩, g5, g6⟩ := h
  exact ⟨g0, ⟨by rw [h7 0 (by omega)]; exact g1.1, g1.2.1, fun i hi => by rw [ho 138 (by omega) (by omega)]; exact g1.2.2 i hi⟩, g2.off (h7 12 (by omega)) (ho _ (by omega) (by omega)) (ho _ (by omega) (by omega)) (ho _ (by omega) (by omega)), by rw [ho 148 (by omega) (by omega)]; exact g3, ⟨a, u1, by rw [h7 19 (by omega)]; exact u2, by rw [h7 18 (by omega)]; exact u3, u4, fun i hi => by rw [ho 150 (by omega) (by omega)]; exact u5 i hi⟩, ⟨by rw [h7 23 (by omega)]; exact g5.1, g5.2.1, fun i hi => by rw [ho 152 (by omega) (by omega)]; exact g5.2.2 i hi⟩, hs⟩
theorem tb_n (B c : Nat) : nI (B / 2 ^ c % 2 ^ 1) = nI (if B.testBit c = true then 1 else 0) := by
  congr 1
  rw [Nat.testBit_eq_decide_div_mod_eq]
  have := Nat.mod_lt (B / 2 ^ c) (show 2 ^ 1 > 0 by decide)
  by_cases h : B / 2 ^ c % 2 = 1
  · rw [decide_eq_true h, if_pos rfl]
    exact h
  · rw [decide_eq_false h, if_neg (by decide)]
    omega
theorem row0_or {x : Int32} (h : isRow0 x = true) : x = 0 ∨ isRowI x = true := by
  unfold isRow0 at h
  rw [Bool.or_eq_true] at h
  exact h.imp of_decide_eq_true id
theorem row0_n {x : Int32} (h : ¬ x = 0) (h2 : isRowI x = false) : isRow0 x = false := by
  unfold isRow0
  rw [decide_eq_false h, h2]
  rfl
theorem row0_z : isRow0 0 = true := by decide
theorem row0_r {x : Int32} (h : isRowI x = true) : isRow0 x = true := by
  unfold isRow0
  rw [h, Bool.or_true]
set_option maxHeartbeats 1000000 in
theorem mp_write {S : Scr} {d : Nat} {f : FF} {g : GG} {B : Nat} {tx : Nat → Nat} {tl : Nat} {V : Va} {M : Nat → Nat → Nat} {uN : Nat} {uL : Nat → Nat → Nat → Nat} {kN : Nat} {kL : Nat → Nat → Nat → Nat} {sn : Nat} {se : Nat → Nat → Nat} (G : GOm g) (hR : MRl f g tx tl V M uN uL kN kL sn se) (hW : StW B tx tl V M uN uL kN kL sn se) (h1 : 1 ≤ V.1) {c : Nat} (hc1 : 32 ≤ c) (hc2 : c ≤ 126) : Wp S (d + 1) 60 0 [some (.ref 137), some (.int (nI c))] [] 153 f g (MdQ f g (if tl < 200 then nI (tl + 1) else -3) (if tl < 200 then txA tx tl c else tx) (if tl < 200 then tl + 1 else tl) V M uN uL kN kL sn se) := by
  obtain ⟨g0, hL, hVa, hA, hU, hK, hS⟩ := id hR
  have h200 := hL.2.1
  have hV := hW.2.1
  have hM := hW.2.2.1.1
  have h9 := hV.1
  have hm6 := hM.1
  have hmt := hM.2.1
  have hmi := hM.2.2.1
  refine w_iload_n k60_0 rfl ?_
  refine w_bipush k60_1 ?_
  refine w_bipush k60_3 ?_
  refine w_sI k60_5 (by decide) mt59 [_, _, _] rfl rfl rfl (mp_in _ _ _) ?_
  refine w_if_ne k60_8 (fun h8 => ?_) (fun h8 => absurd h8 (bI_n0.mpr (decide_eq_true ⟨(nI_leI (a := 32) (by omega) (by omega)).mpr (by omega), (nI_leI (b := 126) (by omega) (by omega)).mpr (by omega)⟩)))
  refine w_aload_n k60_13 rfl rfl ?_
  refine w_geti k60_14 (k := 0) kd137 (by decide) ?_
  rw [hL.1]
  refine w_sipush k60_17 ?_
  refine w_icmp_ne k60_20 (fun h20 => ?_) (fun h20 => ?_)
  ·
    have hz : tl < 200 := by
      have : ¬ tl = 200 := fun hh => h20 (by rw [hh]; rfl)
      omega
    rw [if_pos hz, if_pos hz, if_pos hz]
    refine w_aload_n k60_26 rfl rfl ?_
    refine w_getr k60_27 (k := 1) kd137 (by decide) (r137_1 G) ?_
    refine w_aload_n k60_30 rfl rfl ?_
    refine w_geti k60_31 (k := 0) kd137 (by decide) ?_
    rw [hL.1]
    refine w_iload_n k60_34 rfl ?_
    refine w_iast k60_35 kd138 (nI_pos (by omega)) (nI_clamp (by omega)) (by omega) ?_
    refine w_aload_n k60_36 rfl rfl ?_
    refine w_dup k60_37 rfl ?_
    refine w_geti k60_38 (k := 0) kd137 (by decide) ?_
    rw [fup_no (by omega), hL.1]
    refine w_iconst k60_41 ?_
    refine w_iadd k60_42 ?_
    refine w_top (nI (tl + 1)) (nI_1 _) ?_
    refine w_puti k60_43 (k := 0) kd137 (by decide) ?_
    refine w_aload_n k60_46 rfl rfl ?_
    refine w_geti k60_47 (k := 0) kd137 (by decide) ?_
    rw [fup_self]
    refine w_iret k60_50 mt60 (.int) rfl (rfl) ?_
    first
      | exact MdQ.same hR
      | (refine ⟨rfl, rfl, rfl, fun x hx => by funext y; rw [fup_no (by omega), fup_no (by omega)], hR.le (fun x b1 b2 => by funext y; rw [fup_no b2, fup_no b1]) (fun k b1 => by rw [fup_ne b1, fup_no (by omega)]) ⟨fup_self, by omega, fun i hi => ?_⟩⟩
         rw [fup_no (by omega)]
         unfold txA
         by_cases hit : i = tl
         · rw [if_pos hit, hit, fup_self]
         · rw [if_neg hit, fup_ne hit]
           exact hL.2.2 i (by omega))
  ·
    have hz : ¬ tl < 200 := by
      have := (nI_eq (b := 200) (by omega) (by omega)).mp h20
      omega
    rw [if_neg hz, if_neg hz, if_neg hz]
    refine w_bipush k60_23 ?_
    refine w_iret k60_25 mt60 (.int) rfl (rfl) ?_
    first
      | exact MdQ.same hR
      | (refine ⟨rfl, rfl, rfl, fun x hx => by funext y; rw [fup_no (by omega), fup_no (by omega)], hR.le (fun x b1 b2 => by funext y; rw [fup_no b2, fup_no b1]) (fun k b1 => by rw [fup_ne b1, fup_no (by omega)]) ⟨fup_self, by omega, fun i hi => ?_⟩⟩
         rw [fup_no (by omega)]
         unfold txA
         by_cases hit : i = tl
         · rw [if_pos hit, hit, fup_self]
         · rw [if_neg hit, fup_ne hit]
           exact hL.2.2 i (by omega))
set_option maxHeartbeats 1000000 in
theorem mp_write0 {S : Scr} {d : Nat} {f : FF} {g : GG} {B : Nat} {tx : Nat → Nat} {tl : Nat} {V : Va} {M : Nat → Nat → Nat} {uN : Nat} {uL : Nat → Nat → Nat → Nat} {kN : Nat} {kL : Nat → Nat → Nat → Nat} {sn : Nat} {se : Nat → Nat → Nat} (G : GOm g) (hR : MRl f g tx tl V M uN uL kN kL sn se) (hW : StW B tx tl V M uN uL kN kL sn se) (h1 : 1 ≤ V.1) {x : Int32} (hb : ¬ (32 ≤ x ∧ x ≤ 126)) : Wp S (d + 1) 60 0 [some (.ref 137), some (.int x)] [] 153 f g (MdQ f g (-1) tx tl V M uN uL kN kL sn se) := by
  obtain ⟨g0, hL, hVa, hA, hU, hK, hS⟩ := id hR
  have h200 := hL.2.1
  have hV := hW.2.1
  have hM := hW.2.2.1.1
  have h9 := hV.1
  have hm6 := hM.1
  have hmt := hM.2.1
  have hmi := hM.2.2.1
  refine w_iload_n k60_0 rfl ?_
  refine w_bipush k60_1 ?_
  refine w_bipush k60_3 ?_
  refine w_sI k60_5 (by decide) mt59 [_, _, _] rfl rfl rfl (mp_in _ _ _) ?_
  refine w_if_ne k60_8 (fun h8 => absurd (bI_0.mpr (decide_eq_false hb)) h8) (fun h8 => ?_)
  refine w_iconst k60_11 ?_
  refine w_iret k60_12 mt60 (.int) rfl (rfl) ?_
  exact MdQ.same hR
set_option maxHeartbeats 1000000 in
theorem mp_wipe {S : Scr} {d : Nat} {f : FF} {g : GG} {B : Nat} {tx : Nat → Nat} {tl : Nat} {V : Va} {M : Nat → Nat → Nat} {uN : Nat} {uL : Nat → Nat → Nat → Nat} {kN : Nat} {kL : Nat → Nat → Nat → Nat} {sn : Nat} {se : Nat → Nat → Nat} (G : GOm g) (hR : MRl f g tx tl V M uN uL kN kL sn se) (hW : StW B tx tl V M uN uL kN kL sn se) (h1 : 1 ≤ V.1)  : Wp S d 62 0 [some (.ref 137), none] [] 153 f g (MdQ f g (nI tl) tx 0 V M uN uL kN kL sn se) := by
  obtain ⟨g0, hL, hVa, hA, hU, hK, hS⟩ := id hR
  have h200 := hL.2.1
  have hV := hW.2.1
  have hM := hW.2.2.1.1
  have h9 := hV.1
  have hm6 := hM.1
  have hmt := hM.2.1
  have hmi := hM.2.2.1
  refine w_aload_n k62_0 rfl rfl ?_
  refine w_geti k62_1 (k := 0) kd137 (by decide) ?_
  rw [hL.1]
  refine w_istore_n k62_4 (ls' := [_, _]) rfl ?_
  refine w_aload_n k62_5 rfl rfl ?_
  refine w_iconst k62_6 ?_
  refine w_puti k62_7 (k := 0) kd137 (by decide) ?_
  refine w_iload_n k62_10 rfl ?_
  refine w_iret k62_11 mt62 (.int) rfl (rfl) ?_
  exact ⟨rfl, rfl, rfl, fun x hx => by funext y; rw [fup_no (by omega)], hR.le (fun x b1 b2 => by funext y; rw [fup_no b2]) (fun k b1 => by rw [fup_ne b1]) ⟨fup_self, by omega, fun i hi => absurd hi (Nat.not_lt_zero i)⟩⟩
set_option maxHeartbeats 1000000 in
theorem mp_chair {S : Scr} {d : Nat} {f : FF} {g : GG} {B : Nat} {tx : Nat → Nat} {tl : Nat} {V : Va} {M : Nat → Nat → Nat} {uN : Nat} {uL : Nat → Nat → Nat → Nat} {kN : Nat} {kL : Nat → Nat → Nat → Nat} {sn : Nat} {se : Nat → Nat → Nat} (G : GOm g) (hR : MRl f g tx tl V M uN uL kN kL sn se) (hW : StW B tx tl V M uN uL kN kL sn se) (h1 : 1 ≤ V.1) {c w : Nat} (hc : c < V.1) (hw : w < 5) : Wp S (d + 2) 81 0 [some (.ref 137), some (.int (nI c)), some (.int (nI w))] [] 153 f g (MdQ f g (nI (chW V M c w)) tx tl V M uN uL kN kL sn se) := by
  obtain ⟨g0, hL, hVa, hA, hU, hK, hS⟩ := id hR
  have h200 := hL.2.1
  have hV := hW.2.1
  have hM := hW.2.2.1.1
  have h9 := hV.1
  have hm6 := hM.1
  have hmt := hM.2.1
  have hmi := hM.2.2.1
  refine w_aload_n k81_0 rfl rfl ?_
  refine w_iload_n k81_1 rfl ?_
  refine w_vI k81_2 mt78 kd137 ⟨rfl, by decide⟩ [_] rfl rfl rfl (mp_isChair G hVa h9 h1 _) ?_
  rw [has_dec (by omega) (by omega)]
  refine w_if_ne k81_5 (fun h5 => ?_) (fun h5 => absurd h5 (bI_n0.mpr (decide_eq_true hc)))
  refine w_iload_n k81_10 rfl ?_
  rcases (show w = 0 ∨ w = 1 ∨ w = 2 ∨ w = 3 ∨ w = 4 by omega) with rfl | rfl | rfl | rfl | rfl
  ·
    refine w_tsw k81_11 (t := 44) (by decide) ?_
    refine w_aload_n k81_44 rfl rfl ?_
    refine w_getr k81_45 (k := 13) kd137 (by decide) (r137_13 G) ?_
    refine w_iload_n k81_48 rfl ?_
    refine w_iald k81_49 kd145 (nI_pos (by omega)) (nI_clamp (by omega)) (by omega) ?_
    rw [(hVa.2 c hc).1]
    refine w_iret k81_50 mt81 (.int) rfl (rfl) ?_
    exact MdQ.same hR
  ·
    refine w_tsw k81_11 (t := 51) (by decide) ?_
    refine w_aload_n k81_51 rfl rfl ?_
    refine w_getr k81_52 (k := 14) kd137 (by decide) (r137_14 G) ?_
    refine w_iload_n k81_55 rfl ?_
    refine w_iald k81_56 kd146 (nI_pos (by omega)) (nI_clamp (by omega)) (by omega) ?_
    rw [(hVa.2 c hc).2.1]
    refine w_iret k81_57 mt81 (.int) rfl (rfl) ?_
    exact MdQ.same hR
  ·
    refine w_tsw k81_11 (t := 58) (by decide) ?_
    refine w_aload_n k81_58 rfl rfl ?_
    refine w_getr k81_59 (k := 15) kd137 (by decide) (r137_15 G) ?_
    refine w_iload_n k81_62 rfl ?_
    refine w_iald k81_63 kd147 (nI_pos (by omega)) (nI_clamp (by omega)) (by omega) ?_
    rw [(hVa.2 c hc).2.2]
    refine w_iret k81_64 mt81 (.int) rfl (rfl) ?_
    exact MdQ.same hR
  ·
    refine w_tsw k81_11 (t := 65) (by decide) ?_
    refine w_aload_n k81_65 rfl rfl ?_
    refine w_getr k81_66 (k := 16) kd137 (by decide) (r137_16 G) ?_
    refine w_iconst k81_69 ?_
    refine w_iald k81_70 kd148 (by decide) (show (1 : Int32).toNatClampNeg = 1 from rfl) (by decide) ?_
    rw [hA.2.1]
    refine w_iload_n k81_71 rfl ?_
    refine w_ishr k81_72 ?_
    rw [shr_n (by omega) (by omega)]
    refine w_iconst k81_73 ?_
    refine w_iand k81_74 ?_
    rw [and_n (k := 1) (Nat.lt_of_le_of_lt (Nat.div_le_self _ _) (by omega)) 1 (by decide), tb_n]
    refine w_iret k81_75 mt81 (.int) rfl (rfl) ?_
    exact MdQ.same hR
  ·
    refine w_tsw k81_11 (t := 76) (by decide) ?_
    refine w_aload_n k81_76 rfl rfl ?_
    refine w_iload_n k81_77 rfl ?_
    refine w_vI k81_78 mt80 kd137 ⟨rfl, by decide⟩ [_] rfl rfl rfl (mp_atChair G hA hm6 (hM.l12 h9) (x := c) (by omega)) ?_
    refine w_iret k81_81 mt81 (.int) rfl (rfl) ?_
    exact MdQ.same hR
set_option maxHeartbeats 1000000 in
theorem mp_chair0 {S : Scr} {d : Nat} {f : FF} {g : GG} {B : Nat} {tx : Nat → Nat} {tl : Nat} {V : Va} {M : Nat → Nat → Nat} {uN : Nat} {uL : Nat → Nat → Nat → Nat} {kN : Nat} {kL : Nat → Nat → Nat → Nat} {sn : Nat} {se : Nat → Nat → Nat} (G : GOm g) (hR : MRl f g tx tl V M uN uL kN kL sn se) (hW : StW B tx tl V M uN uL kN kL sn se) (h1 : 1 ≤ V.1) {x y : Int32} (hb : ¬ (0 ≤ x ∧ x < nI V.1)) : Wp S (d + 2) 81 0 [some (.ref 137), some (.int x), some (.int y)] [] 153 f g (MdQ f g (-1) tx tl V M uN uL kN kL sn se) := by
  obtain ⟨g0, hL, hVa, hA, hU, hK, hS⟩ := id hR
  have h200 := hL.2.1
  have hV := hW.2.1
  have hM := hW.2.2.1.1
  have h9 := hV.1
  have hm6 := hM.1
  have hmt := hM.2.1
  have hmi := hM.2.2.1
  refine w_aload_n k81_0 rfl rfl ?_
  refine w_iload_n k81_1 rfl ?_
  refine w_vI k81_2 mt78 kd137 ⟨rfl, by decide⟩ [_] rfl rfl rfl (mp_isChair G hVa h9 h1 _) ?_
  refine w_if_ne k81_5 (fun h5 => absurd (bI_0.mpr (decide_eq_false hb)) h5) (fun h5 => ?_)
  refine w_iconst k81_8 ?_
  refine w_iret k81_9 mt81 (.int) rfl (rfl) ?_
  exact MdQ.same hR
set_option maxHeartbeats 1000000 in
theorem mp_chair1 {S : Scr} {d : Nat} {f : FF} {g : GG} {B : Nat} {tx : Nat → Nat} {tl : Nat} {V : Va} {M : Nat → Nat → Nat} {uN : Nat} {uL : Nat → Nat → Nat → Nat} {kN : Nat} {kL : Nat → Nat → Nat → Nat} {sn : Nat} {se : Nat → Nat → Nat} (G : GOm g) (hR : MRl f g tx tl V M uN uL kN kL sn se) (hW : StW B tx tl V M uN uL kN kL sn se) (h1 : 1 ≤ V.1) {c : Nat} {y : Int32} (hc : c < V.1) (hb : ¬ (0 ≤ y ∧ y ≤ nI 4)) : Wp S (d + 2) 81 0 [some (.ref 137), some (.int (nI c)), some (.int y)] [] 153 f g (MdQ f g (-1) tx tl V M uN uL kN kL sn se) := by
  obtain ⟨g0, hL, hVa, hA, hU, hK, hS⟩ := id hR
  have h200 := hL.2.1
  have hV := hW.2.1
  have hM := hW.2.2.1.1
  have h9 := hV.1
  have hm6 := hM.1
  have hmt := hM.2.1
  have hmi := hM.2.2.1
  refine w_aload_n k81_0 rfl rfl ?_
  refine w_iload_n k81_1 rfl ?_
  refine w_vI k81_2 mt78 kd137 ⟨rfl, by decide⟩ [_] rfl rfl rfl (mp_isChair G hVa h9 h1 _) ?_
  rw [has_dec (by omega) (by omega)]
  refine w_if_ne k81_5 (fun h5 => ?_) (fun h5 => absurd h5 (bI_n0.mpr (decide_eq_true hc)))
  refine w_iload_n k81_10 rfl ?_
  have hq := out_I (by decide) hb
  refine w_tsw k81_11 (t := 82) (tsw_out hq) ?_
  refine w_iconst k81_82 ?_
  refine w_iret k81_83 mt81 (.int) rfl (rfl) ?_
  exact MdQ.same hR
set_option maxHeartbeats 1000000 in
theorem mp_message {S : Scr} {d : Nat} {f : FF} {g : GG} {B : Nat} {tx : Nat → Nat} {tl : Nat} {V : Va} {M : Nat → Nat → Nat} {uN : Nat} {uL : Nat → Nat → Nat → Nat} {kN : Nat} {kL : Nat → Nat → Nat → Nat} {sn : Nat} {se : Nat → Nat → Nat} (G : GOm g) (hR : MRl f g tx tl V M uN uL kN kL sn se) (hW : StW B tx tl V M uN uL kN kL sn se) (h1 : 1 ≤ V.1) {c w : Nat} (hc : c < M 0 2) (hw : w < 6) : Wp S (d + 2) 85 0 [some (.ref 137), some (.int (nI c)), some (.int (nI w))] [] 153 f g (MdQ f g (msV (M (c + 1)) w) tx tl V M uN uL kN kL sn se) := by
  obtain ⟨g0, hL, hVa, hA, hU, hK, hS⟩ := id hR
  have h200 := hL.2.1
  have hV := hW.2.1
  have hM := hW.2.2.1.1
  have h9 := hV.1
  have hm6 := hM.1
  have hmt := hM.2.1
  have hmi := hM.2.2.1
  refine w_aload_n k85_0 rfl rfl ?_
  refine w_iload_n k85_1 rfl ?_
  refine w_vI k85_2 mt84 kd137 ⟨rfl, by decide⟩ [_] rfl rfl rfl (mp_isMessage G hA hm6 _) ?_
  rw [has_dec (by omega) (by omega)]
  refine w_if_eq k85_5 (fun h5 => absurd h5 (bI_n0.mpr (decide_eq_true hc))) (fun h5 => ?_)
  refine w_iload_n k85_8 rfl ?_
  refine w_iconst k85_9 ?_
  refine w_iconst k85_10 ?_
  refine w_sI k85_11 (by decide) mt59 [_, _, _] rfl rfl rfl (mp_in _ _ _) ?_
  refine w_if_eq k85_14 (fun h14 => absurd h14 (bI_n0.mpr (decide_eq_true ⟨(nI_leI (a := 0) (by omega) (by omega)).mpr (by omega), (nI_leI (b := 5) (by omega) (by omega)).mpr (by omega)⟩))) (fun h14 => ?_)
  refine w_aload_n k85_17 rfl rfl ?_
  refine w_getr k85_18 (k := 16) kd137 (by decide) (r137_16 G) ?_
  refine w_iload_n k85_21 rfl ?_
  refine w_iload_n k85_22 rfl ?_
  refine w_sI k85_23 (by decide) mt79 [_, _, _] rfl rfl rfl (mp_is kd148 (by omega) hw) ?_
  rw [hA.2.2.2 c hc w hw]
  refine w_goto k85_26 ?_
  refine w_iret k85_30 mt85 (.int) rfl (rfl) ?_
  exact MdQ.same hR
set_option maxHeartbeats 1000000 in
theorem mp_message0 {S : Scr} {d : Nat} {f : FF} {g : GG} {B : Nat} {tx : Nat → Nat} {tl : Nat} {V : Va} {M : Nat → Nat → Nat} {uN : Nat} {uL : Nat → Nat → Nat → Nat} {kN : Nat} {kL : Nat → Nat → Nat → Nat} {sn : Nat} {se : Nat → Nat → Nat} (G : GOm g) (hR : MRl f g tx tl V M uN uL kN kL sn se) (hW : StW B tx tl V M uN uL kN kL sn se) (h1 : 1 ≤ V.1) {x y : Int32} (hb : ¬ (0 ≤ x ∧ x < nI (M 0 2))) : Wp S (d + 2) 85 0 [some (.ref 137), some (.int x), some (.int y)] [] 153 f g (MdQ f g (-1) tx tl V M uN uL kN kL sn se) := by
  obtain ⟨g0, hL, hVa, hA, hU, hK, hS⟩ := id hR
  have h200 := hL.2.1
  have hV := hW.2.1
  have hM := hW.2.2.1.1
  have h9 := hV.1
  have hm6 := hM.1
  have hmt := hM.2.1
  have hmi := hM.2.2.1
  refine w_aload_n k85_0 rfl rfl ?_
  refine w_iload_n k85_1 rfl ?_
  refine w_vI k85_2 mt84 kd137 ⟨rfl, by decide⟩ [_] rfl rfl rfl (mp_isMessage G hA hm6 _) ?_
  refine w_if_eq k85_5 (fun h5 => ?_) (fun h5 => absurd (bI_0.mpr (decide_eq_false hb)) h5)
  refine w_iconst k85_29 ?_
  refine w_iret k85_30 mt85 (.int) rfl (rfl) ?_
  exact MdQ.same hR
set_option maxHeartbeats 1000000 in
theorem mp_message1 {S : Scr} {d : Nat} {f : FF} {g : GG} {B : Nat} {tx : Nat → Nat} {tl : Nat} {V : Va} {M : Nat → Nat → Nat} {uN : Nat} {uL : Nat → Nat → Nat → Nat} {kN : Nat} {kL : Nat → Nat → Nat → Nat} {sn : Nat} {se : Nat → Nat → Nat} (G : GOm g) (hR : MRl f g tx tl V M uN uL kN kL sn se) (hW : StW B tx tl V M uN uL kN kL sn se) (h1 : 1 ≤ V.1) {c : Nat} {y : Int32} (hc : c < M 0 2) (hb : ¬ (0 ≤ y ∧ y ≤ nI 5)) : Wp S (d + 2) 85 0 [some (.ref 137), some (.int (nI c)), some (.int y)] [] 153 f g (MdQ f g (-1) tx tl V M uN uL kN kL sn se) := by
  obtain ⟨g0, hL, hVa, hA, hU, hK, hS⟩ := id hR
  have h200 := hL.2.1
  have hV := hW.2.1
  have hM := hW.2.2.1.1
  have h9 := hV.1
  have hm6 := hM.1
  have hmt := hM.2.1
  have hmi := hM.2.2.1
  refine w_aload_n k85_0 rfl rfl ?_
  refine w_iload_n k85_1 rfl ?_
  refine w_vI k85_2 mt84 kd137 ⟨rfl, by decide⟩ [_] rfl rfl rfl (mp_isMessage G hA hm6 _) ?_
  rw [has_dec (by omega) (by omega)]
  refine w_if_eq k85_5 (fun h5 => absurd h5 (bI_n0.mpr (decide_eq_true hc))) (fun h5 => ?_)
  refine w_iload_n k85_8 rfl ?_
  refine w_iconst k85_9 ?_
  refine w_iconst k85_10 ?_
  refine w_sI k85_11 (by decide) mt59 [_, _, _] rfl rfl rfl (mp_in _ _ _) ?_
  refine w_if_eq k85_14 (fun h14 => ?_) (fun h14 => absurd (bI_0.mpr (decide_eq_false hb)) h14)
  refine w_iconst k85_29 ?_
  refine w_iret k85_30 mt85 (.int) rfl (rfl) ?_
  exact MdQ.same hR
set_option maxHeartbeats 1000000 in
theorem mp_knit {S : Scr} {d : Nat} {f : FF} {g : GG} {B : Nat} {tx : Nat → Nat} {tl : Nat} {V : Va} {M : Nat → Nat → Nat} {uN : Nat} {uL : Nat → Nat → Nat → Nat} {kN : Nat} {kL : Nat → Nat → Nat → Nat} {sn : Nat} {se : Nat → Nat → Nat} (G : GOm g) (hR : MRl f g tx tl V M uN uL kN kL sn se) (hW : StW B tx tl V M uN uL kN kL sn se) (h1 : 1 ≤ V.1) {c r : Nat} (hc : c < V.1) (hr : RowOk r) (hr0 : isRow0 (nI r) = true) : Wp S (d + 2) 98 0 [some (.ref 137), some (.int (nI c)), some (.int (nI r))] [] 153 f g (MdQ f g (nI (kn (V.2.1 c) r)) tx tl V M uN uL kN kL sn se) := by
  obtain ⟨g0, hL, hVa, hA, hU, hK, hS⟩ := id hR
  have h200 := hL.2.1
  have hV := hW.2.1
  have hM := hW.2.2.1.1
  have h9 := hV.1
  have hm6 := hM.1
  have hmt := hM.2.1
  have hmi := hM.2.2.1
  refine w_aload_n k98_0 rfl rfl ?_
  refine w_iload_n k98_1 rfl ?_
  refine w_vI k98_2 mt78 kd137 ⟨rfl, by decide⟩ [_] rfl rfl rfl (mp_isChair G hVa h9 h1 _) ?_
  rw [has_dec (by omega) (by omega)]
  refine w_if_eq k98_5 (fun h5 => absurd h5 (bI_n0.mpr (decide_eq_true hc))) (fun h5 => ?_)
  refine w_iload_n k98_8 rfl ?_
  refine w_if_eq k98_9 (fun h9 => ?_) (fun h9 => ?_)
  ·
    refine w_aload_n k98_19 rfl rfl ?_
    refine w_getr k98_20 (k := 13) kd137 (by decide) (r137_13 G) ?_
    refine w_iload_n k98_23 rfl ?_
    refine w_iald k98_24 kd145 (nI_pos (by omega)) (nI_clamp (by omega)) (by omega) ?_
    rw [(hVa.2 c hc).1]
    refine w_iload_n k98_25 rfl ?_
    refine w_sI k98_26 (by decide) mt97 [_, _] rfl rfl rfl (mp_knitBy (hV.2 c hc).1 hr) ?_
    refine w_goto k98_29 ?_
    refine w_iret k98_33 mt98 (.int) rfl (rfl) ?_
    exact MdQ.same hR
  ·
    have h9b := h9
    refine w_iload_n k98_12 rfl ?_
    refine w_sI k98_13 (by decide) mt94 [_] rfl rfl rfl (mp_isRow _) ?_
    refine w_if_eq k98_16 (fun h16 => absurd h16 (bI_n0.mpr ((row0_or hr0).resolve_left h9b))) (fun h16 => ?_)
    refine w_aload_n k98_19 rfl rfl ?_
    refine w_getr k98_20 (k := 13) kd137 (by decide) (r137_13 G) ?_
    refine w_iload_n k98_23 rfl ?_
    refine w_iald k98_24 kd145 (nI_pos (by omega)) (nI_clamp (by omega)) (by omega) ?_
    rw [(hVa.2 c hc).1]
    refine w_iload_n k98_25 rfl ?_
    refine w_sI k98_26 (by decide) mt97 [_, _] rfl rfl rfl (mp_knitBy (hV.2 c hc).1 hr) ?_
    refine w_goto k98_29 ?_
    refine w_iret k98_33 mt98 (.int) rfl (rfl) ?_
    exact MdQ.same hR
set_option maxHeartbeats 1000000 in
theorem mp_knit0 {S : Scr} {d : Nat} {f : FF} {g : GG} {B : Nat} {tx : Nat → Nat} {tl : Nat} {V : Va} {M : Nat → Nat → Nat} {uN : Nat} {uL : Nat → Nat → Nat → Nat} {kN : Nat} {kL : Nat → Nat → Nat → Nat} {sn : Nat} {se : Nat → Nat → Nat} (G : GOm g) (hR : MRl f g tx tl V M uN uL kN kL sn se) (hW : StW B tx tl V M uN uL kN kL sn se) (h1 : 1 ≤ V.1) {x y : Int32} (hb : ¬ ((0 ≤ x ∧ x < nI V.1) ∧ isRow0 y = true)) : Wp S (d + 2) 98 0 [some (.ref 137), some (.int x), some (.int y)] [] 153 f g (MdQ f g (-1) tx tl V M uN uL kN kL sn se) := by
  obtain ⟨g0, hL, hVa, hA, hU, hK, hS⟩ := id hR
  have h200 := hL.2.1
  have hV := hW.2.1
  have hM := hW.2.2.1.1
  have h9 := hV.1
  have hm6 := hM.1
  have hmt := hM.2.1
  have hmi := hM.2.2.1
  refine w_aload_n k98_0 rfl rfl ?_
  refine w_iload_n k98_1 rfl ?_
  refine w_vI k98_2 mt78 kd137 ⟨rfl, by decide⟩ [_] rfl rfl rfl (mp_isChair G hVa h9 h1 _) ?_
  refine w_if_eq k98_5 (fun h5 => ?_) (fun h5 => ?_)
  ·
    refine w_iconst k98_32 ?_
    refine w_iret k98_33 mt98 (.int) rfl (rfl) ?_
    exact MdQ.same hR
  ·
    have x5 := of_decide_eq_true (bI_n0.mp h5)
    refine w_iload_n k98_8 rfl ?_
    refine w_if_eq k98_9 (fun h9 => absurd h9 (fun hh => hb ⟨x5, by rw [hh]; rfl⟩)) (fun h9 => ?_)
    refine w_iload_n k98_12 rfl ?_
    refine w_sI k98_13 (by decide) mt94 [_] rfl rfl rfl (mp_isRow _) ?_
    refine w_if_eq k98_16 (fun h16 => ?_) (fun h16 => absurd (bI_0.mpr (Bool.eq_false_iff.mpr fun hh => hb ⟨x5, row0_r hh⟩)) h16)
    refine w_iconst k98_32 ?_
    refine w_iret k98_33 mt98 (.int) rfl (rfl) ?_
    exact MdQ.same hR
set_option maxHeartbeats 1000000 in
theorem mp_adds {S : Scr} {d : Nat} {f : FF} {g : GG} {b : Nat} {M : Nat → Nat → Nat} (hb : kd KKl 153 b = some (20, 39)) (hA : MR1 (f b) M) (h6 : M 0 2 < 6) (c t r : Nat) : Wp S d 55 0 [some (.ref b), some (.int (nI c)), some (.int (nI t)), some (.int (nI r)), none] [] 153 f g (fun v n' f' g' => v = none ∧ n' = 153 ∧ g' = g ∧ (∀ x, x ≠ b → f' x = f x) ∧ MR1 (f' b) (mAdd M c t r)) := by
  refine w_iconst k55_0 ?_
  refine w_bipush k55_1 ?_
  refine w_aload_n k55_3 rfl rfl ?_
  refine w_iconst k55_4 ?_
  refine w_iald k55_5 hb (by decide) (show (2 : Int32).toNatClampNeg = 2 from rfl) (by decide) ?_
  rw [hA.2.2.1]
  refine w_imul k55_6 ?_
  refine w_top (nI (6 * M 0 2)) (pk_mul 6 _) ?_
  refine w_iadd k55_7 ?_
  refine w_top (nI (3 + 6 * M 0 2)) (nI_add 3 _) ?_
  refine w_istore k55_8 (ls' := [_, _, _, _, _]) rfl ?_
  refine w_aload_n k55_10 rfl rfl ?_
  refine w_iload k55_11 rfl ?_
  refine w_iconst k55_13 ?_
  refine w_iadd k55_14 ?_
  refine w_top (nI (3 + 6 * M 0 2 + 0)) (nI_add _ 0) ?_
  refine w_iload_n k55_15 rfl ?_
  refine w_iast k55_16 hb (nI_pos (by omega)) (nI_clamp (by omega)) (by omega) ?_
  refine w_aload_n k55_17 rfl rfl ?_
  refine w_iload k55_18 rfl ?_
  refine w_iconst k55_20 ?_
  refine w_iadd k55_21 ?_
  refine w_top (nI (3 + 6 * M 0 2 + 1)) (nI_add _ 1) ?_
  refine w_iconst k55_22 ?_
  refine w_iast k55_23 hb (nI_pos (by omega)) (nI_clamp (by omega)) (by omega) ?_
  refine w_aload_n k55_24 rfl rfl ?_
  refine w_iload k55_25 rfl ?_
  refine w_iconst k55_27 ?_
  refine w_iadd k55_28 ?_
  refine w_top (nI (3 + 6 * M 0 2 + 2)) (nI_add _ 2) ?_
  refine w_iload_n k55_29 rfl ?_
  refine w_iast k55_30 hb (nI_pos (by omega)) (nI_clamp (by omega)) (by omega) ?_
  refine w_aload_n k55_31 rfl rfl ?_
  refine w_iload k55_32 rfl ?_
  refine w_iconst k55_34 ?_
  refine w_iadd k55_35 ?_
  refine w_top (nI (3 + 6 * M 0 2 + 3)) (nI_add _ 3) ?_
  refine w_iload_n k55_36 rfl ?_
  refine w_iast k55_37 hb (nI_pos (by omega)) (nI_clamp (by omega)) (by omega) ?_
  refine w_aload_n k55_38 rfl rfl ?_
  refine w_iload k55_39 rfl ?_
  refine w_iconst k55_41 ?_
  refine w_iadd k55_42 ?_
  refine w_top (nI (3 + 6 * M 0 2 + 4)) (nI_add _ 4) ?_
  refine w_iconst k55_43 ?_
  refine w_iast k55_44 hb (nI_pos (by omega)) (nI_clamp (by omega)) (by omega) ?_
  refine w_aload_n k55_45 rfl rfl ?_
  refine w_iload k55_46 rfl ?_
  refine w_iconst k55_48 ?_
  refine w_iadd k55_49 ?_
  refine w_top (nI (3 + 6 * M 0 2 + 5)) (nI_add _ 5) ?_
  refine w_bipush k55_50 ?_
  refine w_iast k55_52 hb (nI_pos (by omega)) (nI_clamp (by omega)) (by omega) ?_
  refine w_aload_n k55_53 rfl rfl ?_
  refine w_iconst k55_54 ?_
  refine w_dup2 k55_55 rfl rfl ?_
  refine w_iald k55_56 hb (by decide) (show (2 : Int32).toNatClampNeg = 2 from rfl) (by decide) ?_
  rw [fup_ne (by omega), fup_ne (by omega), fup_ne (by omega), fup_ne (by omega), fup_ne (by omega), fup_ne (by omega), hA.2.2.1]
  refine w_iconst k55_57 ?_
  refine w_iadd k55_58 ?_
  refine w_top (nI (M 0 2 + 1)) (nI_1 _) ?_
  refine w_iast k55_59 hb (by decide) (show (2 : Int32).toNatClampNeg = 2 from rfl) (by decide) ?_
  refine w_vret k55_60 mt55 rfl ?_
  refine ⟨rfl, rfl, rfl, fun x hx => by funext y; rw [fup_no hx, fup_no hx, fup_no hx, fup_no hx, fup_no hx, fup_no hx, fup_no hx], ?_, ?_, fup_self, fun m hm k hk => ?_⟩
  · (repeat (first | rw [fup_self] | rw [fup_ne (by omega)])); exact hA.1
  · (repeat (first | rw [fup_self] | rw [fup_ne (by omega)])); exact hA.2.1
  · have hm : m < M 0 2 + 1 := hm
    by_cases hmm : m = M 0 2
    · subst hmm
      have e : mAdd M c t r (M 0 2 + 1) = fun k => if k = 0 then t else if k = 2 then c else if k = 3 then r else 0 := by funext k; simp [mAdd]
      rw [e]
      rcases (show k = 0 ∨ k = 1 ∨ k = 2 ∨ k = 3 ∨ k = 4 ∨ k = 5 by omega) with rfl | rfl | rfl | rfl | rfl | rfl
      · (repeat (first | rw [fup_self] | rw [fup_ne (by omega)])); rfl
      · (repeat (first | rw [fup_self] | rw [fup_ne (by omega)])); rfl
      · (repeat (first | rw [fup_self] | rw [fup_ne (by omega)])); rfl
      · (repeat (first | rw [fup_self] | rw [fup_ne (by omega)])); rfl
      · (repeat (first | rw [fup_self] | rw [fup_ne (by omega)])); rfl
      · (repeat (first | rw [fup_self] | rw [fup_ne (by omega)])); rfl
    · have e : mAdd M c t r (m + 1) = M (m + 1) := by funext k; unfold mAdd; rw [if_neg (by omega), if_neg (by omega)]
      rw [e]
      (repeat (first | rw [fup_self] | rw [fup_ne (by omega)]))
      exact hA.2.2.2 m (by omega) k hk
set_option maxHeartbeats 1000000 in
theorem ml_pass {S : Scr} {d : Nat} {f : FF} {g : GG} {k : Nat} {V : Va} (G : GOm g) (hVa : MVa f V) (hV : VWf V) (hk : k ≤ 60) : ∀ (t j : Nat) (f1 : FF) (M : Nat → Nat → Nat), t + j = k → (∀ x, x ≠ 148 → f1 x = f x) → MR1 (f1 148) M → MoW V M → M 0 0 + t < 2 ^ 20 → Wp S (d + 4) 112 18 [some (.ref 137), some (.int (nI k)), some (.int (nI j))] [] 153 f1 g (fun v n' f' g' => v = some (.int (nI (howAre (itM V t M) 2 (itM V t M 0 2) 0 0))) ∧ n' = 153 ∧ g' = g ∧ (∀ x, x ≠ 148 → f' x = f x) ∧ MR1 (f' 148) (itM V t M)) := by
  intro t
  induction t with
  | zero =>
    intro j f1 M e0 e1 e2 e3 e4
    refine w_iload_n k112_18 rfl ?_
    refine w_iload_n k112_19 rfl ?_
    refine w_icmp_ge k112_20 (fun h20 => ?_) (fun h20 => absurd (nI_le (by omega) (by omega)) h20)
    refine w_aload_n k112_37 rfl rfl ?_
    refine w_getr k112_38 (k := 16) kd137 (by decide) (r137_16 G) ?_
    have h9 := hV.1
    refine w_sI k112_41 (by decide) mt111 [_] rfl rfl rfl (mp_outOf kd148 e2 e3.1 (e3.l12 h9)) ?_
    refine w_iret k112_44 mt112 (.int) rfl (rfl) ?_
    exact ⟨rfl, rfl, rfl, e1, e2⟩
  | succ t ih =>
    intro j f1 M e0 e1 e2 e3 e4
    refine w_iload_n k112_18 rfl ?_
    refine w_iload_n k112_19 rfl ?_
    refine w_icmp_ge k112_20 (fun h20 => absurd h20 (nI_ge (by omega) (by omega))) (fun h20 => ?_)
    refine w_aload_n k112_23 rfl rfl ?_
    refine w_aload_n k112_24 rfl rfl ?_
    refine w_getr k112_25 (k := 16) kd137 (by decide) (r137_16 G) ?_
    refine w_vA k112_28 mt110 kd137 ⟨rfl, by decide⟩ [_] rfl rfl rfl (mp_passes G kd148 (hVa.arr kd148 e1) hV e2 e3) ?_
    rintro _ _ f2 _ ⟨rfl, rfl, rfl, hO, hM2⟩
    refine w_iinc k112_31 rfl (ls' := [_, _, _]) rfl ?_
    refine w_goto k112_34 ?_
    rw [nI_1]
    exact ih (j + 1) f2 (mnA V M) (by omega) (fun x hx => by rw [hO x hx, e1 x hx]) hM2 (e3.min hV (by omega)) (by show M 0 0 + 1 + t < 2 ^ 20; omega)
set_option maxHeartbeats 1000000 in
theorem mp_pass {S : Scr} {d : Nat} {f : FF} {g : GG} {B : Nat} {tx : Nat → Nat} {tl : Nat} {V : Va} {M : Nat → Nat → Nat} {uN : Nat} {uL : Nat → Nat → Nat → Nat} {kN : Nat} {kL : Nat → Nat → Nat → Nat} {sn : Nat} {se : Nat → Nat → Nat} (G : GOm g) (hR : MRl f g tx tl V M uN uL kN kL sn se) (hW : StW B tx tl V M uN uL kN kL sn se) (h1 : 1 ≤ V.1) {k : Nat} (hk1 : 1 ≤ k) (hk : k ≤ 60) (hB : M 0 0 + 60 < 2 ^ 20) : Wp S (d + 4) 112 0 [some (.ref 137), some (.int (nI k)), none] [] 153 f g (MdQ f g (nI (howAre (itM V k M) 2 (itM V k M 0 2) 0 0)) tx tl V (itM V k M) (if uN < 8 then uN + 1 else 8) (putL 8 uN uL M) kN kL sn se) := by
  obtain ⟨g0, hL, hVa, hA, hU, hK, hS⟩ := id hR
  have h200 := hL.2.1
  have hV := hW.2.1
  have hM := hW.2.2.1.1
  have h9 := hV.1
  have hm6 := hM.1
  have hmt := hM.2.1
  have hmi := hM.2.2.1
  refine w_iload_n k112_0 rfl ?_
  refine w_iconst k112_1 ?_
  refine w_bipush k112_2 ?_
  refine w_sI k112_4 (by decide) mt59 [_, _, _] rfl rfl rfl (mp_in _ _ _) ?_
  refine w_if_ne k112_7 (fun h7 => ?_) (fun h7 => absurd h7 (bI_n0.mpr (decide_eq_true ⟨(nI_leI (a := 1) (by omega) (by omega)).mpr (by omega), (nI_leI (b := 60) (by omega) (by omega)).mpr (by omega)⟩)))
  refine w_aload_n k112_12 rfl rfl ?_
  refine w_vA k112_13 mt107 kd137 ⟨rfl, by decide⟩ [] rfl rfl rfl (mp_remember G hR hW h1) ?_
  rintro _ _ f1 _ ⟨rfl, rfl, rfl, hF1, hR1⟩
  obtain ⟨a0, b0, c0, y0, u4, d0⟩ := id hU
  have hW1 := hW.put u4
  have hVa1 := hR1.2.2.1
  have hA1 := hR1.2.2.2.1
  refine w_iconst k112_16 ?_
  refine w_istore_n k112_17 (ls' := [_, _, _]) rfl ?_
  refine (ml_pass G hVa1 hV hk k 0 f1 M (by omega) (fun _ _ => rfl) hA1 hM (by omega)).mono ?_
  rintro _ _ f2 _ ⟨rfl, rfl, rfl, hO, hM2⟩
  exact ⟨rfl, rfl, rfl, fun x hx => by rw [hO x (by omega), hF1 x hx], hR1.mo hO hM2⟩
set_option maxHeartbeats 1000000 in
theorem mp_pass0 {S : Scr} {d : Nat} {f : FF} {g : GG} {B : Nat} {tx : Nat → Nat} {tl : Nat} {V : Va} {M : Nat → Nat → Nat} {uN : Nat} {uL : Nat → Nat → Nat → Nat} {kN : Nat} {kL : Nat → Nat → Nat → Nat} {sn : Nat} {se : Nat → Nat → Nat} (G : GOm g) (hR : MRl f g tx tl V M uN uL kN kL sn se) (hW : StW B tx tl V M uN uL kN kL sn se) (h1 : 1 ≤ V.1) {x : Int32} (hb : ¬ (1 ≤ x ∧ x ≤ 60)) : Wp S (d + 4) 112 0 [some (.ref 137), some (.int x), none] [] 153 f g (MdQ f g (-1) tx tl V M uN uL kN kL sn se) := by
  obtain ⟨g0, hL, hVa, hA, hU, hK, hS⟩ := id hR
  have h200 := hL.2.1
  have hV := hW.2.1
  have hM := hW.2.2.1.1
  have h9 := hV.1
  have hm6 := hM.1
  have hmt := hM.2.1
  have hmi := hM.2.2.1
  refine w_iload_n k112_0 rfl ?_
  refine w_iconst k112_1 ?_
  refine w_bipush k112_2 ?_
  refine w_sI k112_4 (by decide) mt59 [_, _, _] rfl rfl rfl (mp_in _ _ _) ?_
  refine w_if_ne k112_7 (fun h7 => absurd (bI_0.mpr (decide_eq_false hb)) h7) (fun h7 => ?_)
  refine w_iconst k112_10 ?_
  refine w_iret k112_11 mt112 (.int) rfl (rfl) ?_
  exact MdQ.same hR
theorem MR1.ind {ρ ρ' : Nat → Int32} {M : Nat → Nat → Nat} {x : Nat} (h : MR1 ρ M) (h1 : ρ' 1 = nI x) (ho : ∀ k, k ≠ 1 → ρ' k = ρ k) : MR1 ρ' (mset0 M 1 x) := by
  refine ⟨by rw [ho 0 (by omega)]; exact h.1, h1, by rw [ho 2 (by omega)]; exact h.2.2.1, fun m hm k hk => ?_⟩
  have e : mset0 M 1 x (m + 1) = M (m + 1) := by funext q; exact if_neg (by omega)
  rw [e, ho _ (by omega)]
  exact h.2.2.2 m hm k hk
set_option maxHeartbeats 1000000 in
theorem mp_rain {S : Scr} {d : Nat} {f : FF} {g : GG} {B : Nat} {tx : Nat → Nat} {tl : Nat} {V : Va} {M : Nat → Nat → Nat} {uN : Nat} {uL : Nat → Nat → Nat → Nat} {kN : Nat} {kL : Nat → Nat → Nat → Nat} {sn : Nat} {se : Nat → Nat → Nat} (G : GOm g) (hR : MRl f g tx tl V M uN uL kN kL sn se) (hW : StW B tx tl V M uN uL kN kL sn se) (h1 : 1 ≤ V.1) {c : Nat} (hc : c < V.1) : Wp S (d + 2) 114 0 [some (.ref 137), some (.int (nI c))] [] 153 f g (MdQ f g (nI (if (M 0 1 ^^^ 2 ^ c).testBit c = true then 1 else 0)) tx tl V (mset0 M 1 (M 0 1 ^^^ 2 ^ c)) (if uN < 8 then uN + 1 else 8) (putL 8 uN uL M) kN kL sn se) := by
  obtain ⟨g0, hL, hVa, hA, hU, hK, hS⟩ := id hR
  have h200 := hL.2.1
  have hV := hW.2.1
  have hM := hW.2.2.1.1
  have h9 := hV.1
  have hm6 := hM.1
  have hmt := hM.2.1
  have hmi := hM.2.2.1
  refine w_aload_n k114_0 rfl rfl ?_
  refine w_iload_n k114_1 rfl ?_
  refine w_vI k114_2 mt78 kd137 ⟨rfl, by decide⟩ [_] rfl rfl rfl (mp_isChair G hVa h9 h1 _) ?_
  rw [has_dec (by omega) (by omega)]
  refine w_if_ne k114_5 (fun h5 => ?_) (fun h5 => absurd h5 (bI_n0.mpr (decide_eq_true hc)))
  refine w_aload_n k114_10 rfl rfl ?_
  refine w_vA k114_11 mt107 kd137 ⟨rfl, by decide⟩ [] rfl rfl rfl (mp_remember G hR hW h1) ?_
  rintro _ _ f1 _ ⟨rfl, rfl, rfl, hF1, hR1⟩
  obtain ⟨a0, b0, c0, y0, u4, d0⟩ := id hU
  have hW1 := hW.put u4
  have hVa1 := hR1.2.2.1
  have hA1 := hR1.2.2.2.1
  refine w_aload_n k114_14 rfl rfl ?_
  refine w_getr k114_15 (k := 16) kd137 (by decide) (r137_16 G) ?_
  refine w_iconst k114_18 ?_
  refine w_dup2 k114_19 rfl rfl ?_
  refine w_iald k114_20 kd148 (by decide) (show (1 : Int32).toNatClampNeg = 1 from rfl) (by decide) ?_
  rw [hA1.2.1]
  refine w_iconst k114_21 ?_
  refine w_iload_n k114_22 rfl ?_
  refine w_ishl k114_23 ?_
  rw [shl1_n (by omega)]
  refine w_ixor k114_24 ?_
  rw [nI_xor]
  refine w_iast k114_25 kd148 (by decide) (show (1 : Int32).toNatClampNeg = 1 from rfl) (by decide) ?_
  have hxl : M 0 1 ^^^ 2 ^ c < 512 := xor_b hmi (by omega)
  refine w_aload_n k114_26 rfl rfl ?_
  refine w_getr k114_27 (k := 16) kd137 (by decide) (r137_16 G) ?_
  refine w_iconst k114_30 ?_
  refine w_iald k114_31 kd148 (by decide) (show (1 : Int32).toNatClampNeg = 1 from rfl) (by decide) ?_
  rw [fup_self]
  refine w_iload_n k114_32 rfl ?_
  refine w_ishr k114_33 ?_
  rw [shr_n (by omega) (by omega)]
  refine w_iconst k114_34 ?_
  refine w_iand k114_35 ?_
  rw [and_n (k := 1) (Nat.lt_of_le_of_lt (Nat.div_le_self _ _) (by omega)) 1 (by decide), tb_n]
  refine w_iret k114_36 mt114 (.int) rfl (rfl) ?_
  exact ⟨rfl, rfl, rfl, fun x hx => by funext y; rw [fup_no (by omega), hF1 x hx], hR1.mo (fun x hx => by funext y; exact fup_no hx) (hA1.ind fup_self (fun k hk => fup_ne hk))⟩
set_option maxHeartbeats 1000000 in
theorem mp_rain0 {S : Scr} {d : Nat} {f : FF} {g : GG} {B : Nat} {tx : Nat → Nat} {tl : Nat} {V : Va} {M : Nat → Nat → Nat} {uN : Nat} {uL : Nat → Nat → Nat → Nat} {kN : Nat} {kL : Nat → Nat → Nat → Nat} {sn : Nat} {se : Nat → Nat → Nat} (G : GOm g) (hR : MRl f g tx tl V M uN uL kN kL sn se) (hW : StW B tx tl V M uN uL kN kL sn se) (h1 : 1 ≤ V.1) {x : Int32} (hb : ¬ (0 ≤ x ∧ x < nI V.1)) : Wp S (d + 2) 114 0 [some (.ref 137), some (.int x)] [] 153 f g (MdQ f g (-1) tx tl V M uN uL kN kL sn se) := by
  obtain ⟨g0, hL, hVa, hA, hU, hK, hS⟩ := id hR
  have h200 := hL.2.1
  have hV := hW.2.1
  have hM := hW.2.2.1.1
  have h9 := hV.1
  have hm6 := hM.1
  have hmt := hM.2.1
  have hmi := hM.2.2.1
  refine w_aload_n k114_0 rfl rfl ?_
  refine w_iload_n k114_1 rfl ?_
  refine w_vI k114_2 mt78 kd137 ⟨rfl, by decide⟩ [_] rfl rfl rfl (mp_isChair G hVa h9 h1 _) ?_
  refine w_if_ne k114_5 (fun h5 => absurd (bI_0.mpr (decide_eq_false hb)) h5) (fun h5 => ?_)
  refine w_iconst k114_8 ?_
  refine w_iret k114_9 mt114 (.int) rfl (rfl) ?_
  exact MdQ.same hR
set_option maxHeartbeats 1000000 in
theorem mp_send {S : Scr} {d : Nat} {f : FF} {g : GG} {B : Nat} {tx : Nat → Nat} {tl : Nat} {V : Va} {M : Nat → Nat → Nat} {uN : Nat} {uL : Nat → Nat → Nat → Nat} {kN : Nat} {kL : Nat → Nat → Nat → Nat} {sn : Nat} {se : Nat → Nat → Nat} (G : GOm g) (hR : MRl f g tx tl V M uN uL kN kL sn se) (hW : StW B tx tl V M uN uL kN kL sn se) (h1 : 1 ≤ V.1) {c r : Nat} (hc : c < V.1) (hr : RowOk r) (hr0 : isRowI (nI r) = true) (h6z : M 0 2 < 6) : Wp S (d + 2) 118 0 [some (.ref 137), some (.int (nI c)), some (.int (nI r))] [] 153 f g (MdQ f g (nI (M 0 2)) tx tl V (mAdd M c (M 0 0) r) (if uN < 8 then uN + 1 else 8) (putL 8 uN uL M) kN kL sn se) := by
  obtain ⟨g0, hL, hVa, hA, hU, hK, hS⟩ := id hR
  have h200 := hL.2.1
  have hV := hW.2.1
  have hM := hW.2.2.1.1
  have h9 := hV.1
  have hm6 := hM.1
  have hmt := hM.2.1
  have hmi := hM.2.2.1
  refine w_aload_n k118_0 rfl rfl ?_
  refine w_iload_n k118_1 rfl ?_
  refine w_vI k118_2 mt78 kd137 ⟨rfl, by decide⟩ [_] rfl rfl rfl (mp_isChair G hVa h9 h1 _) ?_
  rw [has_dec (by omega) (by omega)]
  refine w_if_eq k118_5 (fun h5 => absurd h5 (bI_n0.mpr (decide_eq_true hc))) (fun h5 => ?_)
  refine w_iload_n k118_8 rfl ?_
  refine w_sI k118_9 (by decide) mt94 [_] rfl rfl rfl (mp_isRow _) ?_
  refine w_if_ne k118_12 (fun h12 => ?_) (fun h12 => absurd h12 (bI_n0.mpr hr0))
  refine w_aload_n k118_17 rfl rfl ?_
  refine w_getr k118_18 (k := 16) kd137 (by decide) (r137_16 G) ?_
  refine w_iconst k118_21 ?_
  refine w_iald k118_22 kd148 (by decide) (show (2 : Int32).toNatClampNeg = 2 from rfl) (by decide) ?_
  rw [hA.2.2.1]
  refine w_bipush k118_23 ?_
  refine w_icmp_ne k118_25 (fun h25 => ?_) (fun h25 => absurd h25 (fun hh => absurd ((nI_eq (b := 6) (by omega) (by omega)).mp hh) (by omega)))
  refine w_aload_n k118_31 rfl rfl ?_
  refine w_vA k118_32 mt107 kd137 ⟨rfl, by decide⟩ [] rfl rfl rfl (mp_remember G hR hW h1) ?_
  rintro _ _ f1 _ ⟨rfl, rfl, rfl, hF1, hR1⟩
  obtain ⟨a0, b0, c0, y0, u4, d0⟩ := id hU
  have hW1 := hW.put u4
  have hVa1 := hR1.2.2.1
  have hA1 := hR1.2.2.2.1
  refine w_aload_n k118_35 rfl rfl ?_
  refine w_getr k118_36 (k := 16) kd137 (by decide) (r137_16 G) ?_
  refine w_iload_n k118_39 rfl ?_
  refine w_aload_n k118_40 rfl rfl ?_
  refine w_getr k118_41 (k := 16) kd137 (by decide) (r137_16 G) ?_
  refine w_iconst k118_44 ?_
  refine w_iald k118_45 kd148 (by decide) (show (0 : Int32).toNatClampNeg = 0 from rfl) (by decide) ?_
  rw [hA1.1]
  refine w_iload_n k118_46 rfl ?_
  refine w_sA k118_47 (by decide) mt55 [_, _, _, _] rfl rfl rfl (mp_adds kd148 hA1 h6z c (M 0 0) r) ?_
  rintro _ _ f2 _ ⟨rfl, rfl, rfl, hO, hM2⟩
  refine w_aload_n k118_50 rfl rfl ?_
  refine w_getr k118_51 (k := 16) kd137 (by decide) (r137_16 G) ?_
  refine w_iconst k118_54 ?_
  refine w_iald k118_55 kd148 (by decide) (show (2 : Int32).toNatClampNeg = 2 from rfl) (by decide) ?_
  rw [hM2.2.2.1]
  refine w_iconst k118_56 ?_
  refine w_isub k118_57 ?_
  refine w_top (nI (M 0 2)) (pk_sub (a := M 0 2 + 1) (b := 1) (by omega)) ?_
  refine w_iret k118_58 mt118 (.int) rfl (rfl) ?_
  exact ⟨rfl, rfl, rfl, fun x hx => by rw [hO x (by omega), hF1 x hx], hR1.mo hO hM2⟩
set_option maxHeartbeats 1000000 in
theorem mp_sendF {S : Scr} {d : Nat} {f : FF} {g : GG} {B : Nat} {tx : Nat → Nat} {tl : Nat} {V : Va} {M : Nat → Nat → Nat} {uN : Nat} {uL : Nat → Nat → Nat → Nat} {kN : Nat} {kL : Nat → Nat → Nat → Nat} {sn : Nat} {se : Nat → Nat → Nat} (G : GOm g) (hR : MRl f g tx tl V M uN uL kN kL sn se) (hW : StW B tx tl V M uN uL kN kL sn se) (h1 : 1 ≤ V.1) {c r : Nat} (hc : c < V.1) (hr0 : isRowI (nI r) = true) (h6z : ¬ M 0 2 < 6) : Wp S (d + 2) 118 0 [some (.ref 137), some (.int (nI c)), some (.int (nI r))] [] 153 f g (MdQ f g (-3) tx tl V M uN uL kN kL sn se) := by
  obtain ⟨g0, hL, hVa, hA, hU, hK, hS⟩ := id hR
  have h200 := hL.2.1
  have hV := hW.2.1
  have hM := hW.2.2.1.1
  have h9 := hV.1
  have hm6 := hM.1
  have hmt := hM.2.1
  have hmi := hM.2.2.1
  have u6 : f 148 2 = nI 6 := by rw [hA.2.2.1, show M 0 2 = 6 by omega]
  refine w_aload_n k118_0 rfl rfl ?_
  refine w_iload_n k118_1 rfl ?_
  refine w_vI k118_2 mt78 kd137 ⟨rfl, by decide⟩ [_] rfl rfl rfl (mp_isChair G hVa h9 h1 _) ?_
  rw [has_dec (by omega) (by omega)]
  refine w_if_eq k118_5 (fun h5 => absurd h5 (bI_n0.mpr (decide_eq_true hc))) (fun h5 => ?_)
  refine w_iload_n k118_8 rfl ?_
  refine w_sI k118_9 (by decide) mt94 [_] rfl rfl rfl (mp_isRow _) ?_
  refine w_if_ne k118_12 (fun h12 => ?_) (fun h12 => absurd h12 (bI_n0.mpr hr0))
  refine w_aload_n k118_17 rfl rfl ?_
  refine w_getr k118_18 (k := 16) kd137 (by decide) (r137_16 G) ?_
  refine w_iconst k118_21 ?_
  refine w_iald k118_22 kd148 (by decide) (show (2 : Int32).toNatClampNeg = 2 from rfl) (by decide) ?_
  rw [u6]
  refine w_bipush k118_23 ?_
  refine w_icmp_ne k118_25 (fun h25 => absurd (rfl) h25) (fun h25 => ?_)
  refine w_bipush k118_28 ?_
  refine w_iret k118_30 mt118 (.int) rfl (rfl) ?_
  exact MdQ.same hR
set_option maxHeartbeats 1000000 in
theorem mp_send0 {S : Scr} {d : Nat} {f : FF} {g : GG} {B : Nat} {tx : Nat → Nat} {tl : Nat} {V : Va} {M : Nat → Nat → Nat} {uN : Nat} {uL : Nat → Nat → Nat → Nat} {kN : Nat} {kL : Nat → Nat → Nat → Nat} {sn : Nat} {se : Nat → Nat → Nat} (G : GOm g) (hR : MRl f g tx tl V M uN uL kN kL sn se) (hW : StW B tx tl V M uN uL kN kL sn se) (h1 : 1 ≤ V.1) {x y : Int32} (hb : ¬ ((0 ≤ x ∧ x < nI V.1) ∧ isRowI y = true)) : Wp S (d + 2) 118 0 [some (.ref 137), some (.int x), some (.int y)] [] 153 f g (MdQ f g (-1) tx tl V M uN uL kN kL sn se) := by
  obtain ⟨g0, hL, hVa, hA, hU, hK, hS⟩ := id hR
  have h200 := hL.2.1
  have hV := hW.2.1
  have hM := hW.2.2.1.1
  have h9 := hV.1
  have hm6 := hM.1
  have hmt := hM.2.1
  have hmi := hM.2.2.1
  refine w_aload_n k118_0 rfl rfl ?_
  refine w_iload_n k118_1 rfl ?_
  refine w_vI k118_2 mt78 kd137 ⟨rfl, by decide⟩ [_] rfl rfl rfl (mp_isChair G hVa h9 h1 _) ?_
  refine w_if_eq k118_5 (fun h5 => ?_) (fun h5 => ?_)
  ·
    refine w_iconst k118_15 ?_
    refine w_iret k118_16 mt118 (.int) rfl (rfl) ?_
    exact MdQ.same hR
  ·
    have x5 := of_decide_eq_true (bI_n0.mp h5)
    refine w_iload_n k118_8 rfl ?_
    refine w_sI k118_9 (by decide) mt94 [_] rfl rfl rfl (mp_isRow _) ?_
    refine w_if_ne k118_12 (fun h12 => absurd (bI_0.mpr (Bool.eq_false_iff.mpr fun hh => hb ⟨x5, hh⟩)) h12) (fun h12 => ?_)
    refine w_iconst k118_15 ?_
    refine w_iret k118_16 mt118 (.int) rfl (rfl) ?_
    exact MdQ.same hR
theorem MR1.alt {ρ ρ' : Nat → Int32} {M : Nat → Nat → Nat} {m r : Nat} (h : MR1 ρ M) (h1 : ρ' (3 + 6 * m + 3) = nI r) (ho : ∀ k, k ≠ 3 + 6 * m + 3 → ρ' k = ρ k) : MR1 ρ' (mAlt M m r) := by
  have e0 : ∀ k, mAlt M m r 0 k = M 0 k := fun k => if_neg (by omega)
  refine ⟨by rw [ho 0 (by omega), e0]; exact h.1, by rw [ho 1 (by omega), e0]; exact h.2.1, by rw [ho 2 (by omega), e0]; exact h.2.2.1, fun i hi k hk => ?_⟩
  rw [e0] at hi
  by_cases him : i = m ∧ k = 3
  · obtain ⟨rfl, rfl⟩ := him
    rw [h1]
    show nI r = nI (mAlt M i r (i + 1) 3)
    rw [show mAlt M i r (i + 1) 3 = r from if_pos ⟨rfl, rfl⟩]
  · rw [ho _ (by omega), h.2.2.2 i hi k hk]
    have e : ∀ q, q ≠ 3 → mAlt M m r (i + 1) q = M (i + 1) q := fun q hq => if_neg (fun hh => hq hh.2)
    unfold msV
    by_cases h5 : k = 5
    · rw [if_pos h5, if_pos h5, e 1 (by omega), e 5 (by omega)]
    · rw [if_neg h5, if_neg h5]
      congr 1
      exact (if_neg (fun hh => him ⟨by omega, hh.2⟩)).symm
set_option maxHeartbeats 1000000 in
theorem mp_alter {S : Scr} {d : Nat} {f : FF} {g : GG} {B : Nat} {tx : Nat → Nat} {tl : Nat} {V : Va} {M : Nat → Nat → Nat} {uN : Nat} {uL : Nat → Nat → Nat → Nat} {kN : Nat} {kL : Nat → Nat → Nat → Nat} {sn : Nat} {se : Nat → Nat → Nat} (G : GOm g) (hR : MRl f g tx tl V M uN uL kN kL sn se) (hW : StW B tx tl V M uN uL kN kL sn se) (h1 : 1 ≤ V.1) {c r : Nat} (hc : c < M 0 2) (hr0 : isRowI (nI r) = true) (hs : M (c + 1) 1 = 1) : Wp S (d + 2) 120 0 [some (.ref 137), some (.int (nI c)), some (.int (nI r)), none] [] 153 f g (MdQ f g (nI (M (c + 1) 3)) tx tl V (mAlt M c r) (if uN < 8 then uN + 1 else 8) (putL 8 uN uL M) kN kL sn se) := by
  obtain ⟨g0, hL, hVa, hA, hU, hK, hS⟩ := id hR
  have h200 := hL.2.1
  have hV := hW.2.1
  have hM := hW.2.2.1.1
  have h9 := hV.1
  have hm6 := hM.1
  have hmt := hM.2.1
  have hmi := hM.2.2.1
  have hm12 := hM.l12 h9 c hc
  refine w_aload_n k120_0 rfl rfl ?_
  refine w_iload_n k120_1 rfl ?_
  refine w_vI k120_2 mt84 kd137 ⟨rfl, by decide⟩ [_] rfl rfl rfl (mp_isMessage G hA hm6 _) ?_
  rw [has_dec (by omega) (by omega)]
  refine w_if_eq k120_5 (fun h5 => absurd h5 (bI_n0.mpr (decide_eq_true hc))) (fun h5 => ?_)
  refine w_iload_n k120_8 rfl ?_
  refine w_sI k120_9 (by decide) mt94 [_] rfl rfl rfl (mp_isRow _) ?_
  refine w_if_ne k120_12 (fun h12 => ?_) (fun h12 => absurd h12 (bI_n0.mpr hr0))
  refine w_aload_n k120_17 rfl rfl ?_
  refine w_getr k120_18 (k := 16) kd137 (by decide) (r137_16 G) ?_
  refine w_iload_n k120_21 rfl ?_
  refine w_iconst k120_22 ?_
  refine w_sI k120_23 (by decide) mt79 [_, _, _] rfl rfl rfl (mp_is (w := 1) kd148 (by omega) (by omega)) ?_
  rw [hA.k (k := 1) hc (by omega), hs]
  refine w_iconst k120_26 ?_
  refine w_icmp_eq k120_27 (fun h27 => ?_) (fun h27 => absurd (rfl) h27)
  refine w_aload_n k120_33 rfl rfl ?_
  refine w_vA k120_34 mt107 kd137 ⟨rfl, by decide⟩ [] rfl rfl rfl (mp_remember G hR hW h1) ?_
  rintro _ _ f1 _ ⟨rfl, rfl, rfl, hF1, hR1⟩
  obtain ⟨a0, b0, c0, y0, u4, d0⟩ := id hU
  have hW1 := hW.put u4
  have hVa1 := hR1.2.2.1
  have hA1 := hR1.2.2.2.1
  refine w_aload_n k120_37 rfl rfl ?_
  refine w_getr k120_38 (k := 16) kd137 (by decide) (r137_16 G) ?_
  refine w_iload_n k120_41 rfl ?_
  refine w_iconst k120_42 ?_
  refine w_sI k120_43 (by decide) mt79 [_, _, _] rfl rfl rfl (mp_is (w := 3) kd148 (by omega) (by omega)) ?_
  rw [hA1.k (k := 3) hc (by omega)]
  refine w_istore_n k120_46 (ls' := [_, _, _, _]) rfl ?_
  refine w_aload_n k120_47 rfl rfl ?_
  refine w_getr k120_48 (k := 16) kd137 (by decide) (r137_16 G) ?_
  refine w_iconst k120_51 ?_
  refine w_bipush k120_52 ?_
  refine w_iload_n k120_54 rfl ?_
  refine w_imul k120_55 ?_
  refine w_top (nI (6 * c)) (pk_mul 6 _) ?_
  refine w_iadd k120_56 ?_
  refine w_top (nI (3 + 6 * c)) (nI_add 3 _) ?_
  refine w_iconst k120_57 ?_
  refine w_iadd k120_58 ?_
  refine w_top (nI (3 + 6 * c + 3)) (nI_add _ 3) ?_
  refine w_iload_n k120_59 rfl ?_
  refine w_iast k120_60 kd148 (nI_pos (by omega)) (nI_clamp (by omega)) (by omega) ?_
  refine w_iload_n k120_61 rfl ?_
  refine w_iret k120_62 mt120 (.int) rfl (rfl) ?_
  exact ⟨rfl, rfl, rfl, fun x hx => by funext y; rw [fup_no (by omega), hF1 x hx], hR1.mo (fun x hx => by funext y; exact fup_no hx) (hA1.alt fup_self (fun k hk => fup_ne hk))⟩
set_option maxHeartbeats 1000000 in
theorem mp_alterN {S : Scr} {d : Nat} {f : FF} {g : GG} {B : Nat} {tx : Nat → Nat} {tl : Nat} {V : Va} {M : Nat → Nat → Nat} {uN : Nat} {uL : Nat → Nat → Nat → Nat} {kN : Nat} {kL : Nat → Nat → Nat → Nat} {sn : Nat} {se : Nat → Nat → Nat} (G : GOm g) (hR : MRl f g tx tl V M uN uL kN kL sn se) (hW : StW B tx tl V M uN uL kN kL sn se) (h1 : 1 ≤ V.1) {c r : Nat} (hc : c < M 0 2) (hr0 : isRowI (nI r) = true) (hs : ¬ M (c + 1) 1 = 1) : Wp S (d + 2) 120 0 [some (.ref 137), some (.int (nI c)), some (.int (nI r)), none] [] 153 f g (MdQ f g (-2) tx tl V M uN uL kN kL sn se) := by
  obtain ⟨g0, hL, hVa, hA, hU, hK, hS⟩ := id hR
  have h200 := hL.2.1
  have hV := hW.2.1
  have hM := hW.2.2.1.1
  have h9 := hV.1
  have hm6 := hM.1
  have hmt := hM.2.1
  have hmi := hM.2.2.1
  have hm12 := hM.l12 h9 c hc
  refine w_aload_n k120_0 rfl rfl ?_
  refine w_iload_n k120_1 rfl ?_
  refine w_vI k120_2 mt84 kd137 ⟨rfl, by decide⟩ [_] rfl rfl rfl (mp_isMessage G hA hm6 _) ?_
  rw [has_dec (by omega) (by omega)]
  refine w_if_eq k120_5 (fun h5 => absurd h5 (bI_n0.mpr (decide_eq_true hc))) (fun h5 => ?_)
  refine w_iload_n k120_8 rfl ?_
  refine w_sI k120_9 (by decide) mt94 [_] rfl rfl rfl (mp_isRow _) ?_
  refine w_if_ne k120_12 (fun h12 => ?_) (fun h12 => absurd h12 (bI_n0.mpr hr0))
  refine w_aload_n k120_17 rfl rfl ?_
  refine w_getr k120_18 (k := 16) kd137 (by decide) (r137_16 G) ?_
  refine w_iload_n k120_21 rfl ?_
  refine w_iconst k120_22 ?_
  refine w_sI k120_23 (by decide) mt79 [_, _, _] rfl rfl rfl (mp_is (w := 1) kd148 (by omega) (by omega)) ?_
  rw [hA.k (k := 1) hc (by omega)]
  refine w_iconst k120_26 ?_
  refine w_icmp_eq k120_27 (fun h27 => absurd h27 (fun hh => hs ((nI_eq (b := 1) (by omega) (by omega)).mp hh))) (fun h27 => ?_)
  refine w_bipush k120_30 ?_
  refine w_iret k120_32 mt120 (.int) rfl (rfl) ?_
  exact MdQ.same hR
set_option maxHeartbeats 1000000 in
theorem mp_alter0 {S : Scr} {d : Nat} {f : FF} {g : GG} {B : Nat} {tx : Nat → Nat} {tl : Nat} {V : Va} {M : Nat → Nat → Nat} {uN : Nat} {uL : Nat → Nat → Nat → Nat} {kN : Nat} {kL : Nat → Nat → Nat → Nat} {sn : Nat} {se : Nat → Nat → Nat} (G : GOm g) (hR : MRl f g tx tl V M uN uL kN kL sn se) (hW : StW B tx tl V M uN uL kN kL sn se) (h1 : 1 ≤ V.1) {x y : Int32} (hb : ¬ ((0 ≤ x ∧ x < nI (M 0 2)) ∧ isRowI y = true)) : Wp S (d + 2) 120 0 [some (.ref 137), some (.int x), some (.int y), none] [] 153 f g (MdQ f g (-1) tx tl V M uN uL kN kL sn se) := by
  obtain ⟨g0, hL, hVa, hA, hU, hK, hS⟩ := id hR
  have h200 := hL.2.1
  have hV := hW.2.1
  have hM := hW.2.2.1.1
  have h9 := hV.1
  have hm6 := hM.1
  have hmt := hM.2.1
  have hmi := hM.2.2.1
  refine w_aload_n k120_0 rfl rfl ?_
  refine w_iload_n k120_1 rfl ?_
  refine w_vI k120_2 mt84 kd137 ⟨rfl, by decide⟩ [_] rfl rfl rfl (mp_isMessage G hA hm6 _) ?_
  refine w_if_eq k120_5 (fun h5 => ?_) (fun h5 => ?_)
  ·
    refine w_iconst k120_15 ?_
    refine w_iret k120_16 mt120 (.int) rfl (rfl) ?_
    exact MdQ.same hR
  ·
    have x5 := of_decide_eq_true (bI_n0.mp h5)
    refine w_iload_n k120_8 rfl ?_
    refine w_sI k120_9 (by decide) mt94 [_] rfl rfl rfl (mp_isRow _) ?_
    refine w_if_ne k120_12 (fun h12 => absurd (bI_0.mpr (Bool.eq_false_iff.mpr fun hh => hb ⟨x5, hh⟩)) h12) (fun h12 => ?_)
    refine w_iconst k120_15 ?_
    refine w_iret k120_16 mt120 (.int) rfl (rfl) ?_
    exact MdQ.same hR
set_option maxHeartbeats 1000000 in
theorem mp_see {S : Scr} {d : Nat} {f : FF} {g : GG} {B : Nat} {tx : Nat → Nat} {tl : Nat} {V : Va} {M : Nat → Nat → Nat} {uN : Nat} {uL : Nat → Nat → Nat → Nat} {kN : Nat} {kL : Nat → Nat → Nat → Nat} {sn : Nat} {se : Nat → Nat → Nat} (G : GOm g) (hR : MRl f g tx tl V M uN uL kN kL sn se) (hW : StW B tx tl V M uN uL kN kL sn se) (h1 : 1 ≤ V.1) {c r w : Nat} (hc : c < V.1) (hr0 : isRowI (nI r) = true) (hw0 : isRow0 (nI w) = true) : Wp S (d + 2) 159 0 [some (.ref 137), some (.int (nI c)), some (.int (nI r)), some (.int (nI w))] [] 153 f g (MdQ f g (if sn < 6 then nI (sn + 1) else -3) tx tl V M uN uL kN kL (if sn < 6 then sn + 1 else sn) (if sn < 6 then seA se sn c r w else se)) := by
  obtain ⟨g0, hL, hVa, hA, hU, hK, hS⟩ := id hR
  have h200 := hL.2.1
  have hV := hW.2.1
  have hM := hW.2.2.1.1
  have h9 := hV.1
  have hm6 := hM.1
  have hmt := hM.2.1
  have hmi := hM.2.2.1
  have h6s := hS.2.1
  refine w_aload_n k159_0 rfl rfl ?_
  refine w_iload_n k159_1 rfl ?_
  refine w_vI k159_2 mt78 kd137 ⟨rfl, by decide⟩ [_] rfl rfl rfl (mp_isChair G hVa h9 h1 _) ?_
  rw [has_dec (by omega) (by omega)]
  refine w_if_eq k159_5 (fun h5 => absurd h5 (bI_n0.mpr (decide_eq_true hc))) (fun h5 => ?_)
  refine w_iload_n k159_8 rfl ?_
  refine w_sI k159_9 (by decide) mt94 [_] rfl rfl rfl (mp_isRow _) ?_
  refine w_if_eq k159_12 (fun h12 => absurd h12 (bI_n0.mpr hr0)) (fun h12 => ?_)
  refine w_iload_n k159_15 rfl ?_
  refine w_if_eq k159_16 (fun h16 => ?_) (fun h16 => ?_)
  ·
    refine w_aload_n k159_28 rfl rfl ?_
    refine w_geti k159_29 (k := 21) kd137 (by decide) ?_
    rw [hS.1]
    refine w_bipush k159_32 ?_
    refine w_icmp_ne k159_34 (fun h34 => ?_) (fun h34 => ?_)
    ·
      have hz : sn < 6 := by
        have : ¬ sn = 6 := fun hh => h34 (by rw [hh]; rfl)
        omega
      rw [if_pos hz, if_pos hz, if_pos hz]
      refine w_aload_n k159_40 rfl rfl ?_
      refine w_getr k159_41 (k := 22) kd137 (by decide) (r137_22 G) ?_
      refine w_iconst k159_44 ?_
      refine w_aload_n k159_45 rfl rfl ?_
      refine w_geti k159_46 (k := 21) kd137 (by decide) ?_
      rw [hS.1]
      refine w_imul k159_49 ?_
      refine w_top (nI (3 * sn)) (pk_mul 3 _) ?_
      refine w_iload_n k159_50 rfl ?_
      refine w_iast k159_51 kd151 (nI_pos (by omega)) (nI_clamp (by omega)) (by omega) ?_
      refine w_aload_n k159_52 rfl rfl ?_
      refine w_getr k159_53 (k := 22) kd137 (by decide) (r137_22 G) ?_
      refine w_iconst k159_56 ?_
      refine w_aload_n k159_57 rfl rfl ?_
      refine w_geti k159_58 (k := 21) kd137 (by decide) ?_
      rw [fup_no (by omega), hS.1]
      refine w_imul k159_61 ?_
      refine w_top (nI (3 * sn)) (pk_mul 3 _) ?_
      refine w_iconst k159_62 ?_
      refine w_iadd k159_63 ?_
      refine w_top (nI (3 * sn + 1)) (nI_add _ 1) ?_
      refine w_iload_n k159_64 rfl ?_
      refine w_iast k159_65 kd151 (nI_pos (by omega)) (nI_clamp (by omega)) (by omega) ?_
      refine w_aload_n k159_66 rfl rfl ?_
      refine w_getr k159_67 (k := 22) kd137 (by decide) (r137_22 G) ?_
      refine w_iconst k159_70 ?_
      refine w_aload_n k159_71 rfl rfl ?_
      refine w_geti k159_72 (k := 21) kd137 (by decide) ?_
      rw [fup_no (by omega), fup_no (by omega), hS.1]
      refine w_imul k159_75 ?_
      refine w_top (nI (3 * sn)) (pk_mul 3 _) ?_
      refine w_iconst k159_76 ?_
      refine w_iadd k159_77 ?_
      refine w_top (nI (3 * sn + 2)) (nI_add _ 2) ?_
      refine w_iload_n k159_78 rfl ?_
      refine w_iast k159_79 kd151 (nI_pos (by omega)) (nI_clamp (by omega)) (by omega) ?_
      refine w_aload_n k159_80 rfl rfl ?_
      refine w_dup k159_81 rfl ?_
      refine w_geti k159_82 (k := 21) kd137 (by decide) ?_
      rw [fup_no (by omega), fup_no (by omega), fup_no (by omega), hS.1]
      refine w_iconst k159_85 ?_
      refine w_iadd k159_86 ?_
      refine w_top (nI (sn + 1)) (nI_1 _) ?_
      refine w_puti k159_87 (k := 21) kd137 (by decide) ?_
      refine w_aload_n k159_90 rfl rfl ?_
      refine w_geti k159_91 (k := 21) kd137 (by decide) ?_
      rw [fup_self]
      refine w_iret k159_94 mt159 (.int) rfl (rfl) ?_
      first
        | exact MdQ.same hR
        | (refine ⟨rfl, rfl, rfl, fun x hx => by funext y; rw [fup_no (by omega), fup_no (by omega), fup_no (by omega), fup_no (by omega)], hR.se (fun x b1 b2 => by funext y; rw [fup_no b2, fup_no b1, fup_no b1, fup_no b1]) (fun k b1 => by rw [fup_ne b1, fup_no (by omega), fup_no (by omega), fup_no (by omega)]) ⟨fup_self, by omega, fun i hi => ?_⟩⟩
           unfold seA
           by_cases hit : i = sn
           · subst hit
             refine ⟨?_, ?_, ?_⟩
             · (repeat (first | rw [fup_self] | rw [fup_ne (by omega)])); (repeat rw [fup_no (by omega)]); (repeat (first | rw [fup_self] | rw [fup_ne (by omega)])); exact congrArg nI (by simp)
             · (repeat (first | rw [fup_self] | rw [fup_ne (by omega)])); (repeat rw [fup_no (by omega)]); (repeat (first | rw [fup_self] | rw [fup_ne (by omega)])); exact congrArg nI (by simp)
             · (repeat (first | rw [fup_self] | rw [fup_ne (by omega)])); (repeat rw [fup_no (by omega)]); (repeat (first | rw [fup_self] | rw [fup_ne (by omega)])); exact congrArg nI (by simp)
           · have h3 := hS.2.2 i (by omega)
             refine ⟨?_, ?_, ?_⟩
             · rw [fup_no (by omega), fup_ne (by omega), fup_ne (by omega), fup_ne (by omega), if_neg hit]; exact h3.1
             · rw [fup_no (by omega), fup_ne (by omega), fup_ne (by omega), fup_ne (by omega), if_neg hit]; exact h3.2.1
             · rw [fup_no (by omega), fup_ne (by omega), fup_ne (by omega), fup_ne (by omega), if_neg hit]; exact h3.2.2)
    ·
      have hz : ¬ sn < 6 := by
        have := (nI_eq (b := 6) (by omega) (by omega)).mp h34
        omega
      rw [if_neg hz, if_neg hz, if_neg hz]
      refine w_bipush k159_37 ?_
      refine w_iret k159_39 mt159 (.int) rfl (rfl) ?_
      first
        | exact MdQ.same hR
        | (refine ⟨rfl, rfl, rfl, fun x hx => by funext y; rw [fup_no (by omega), fup_no (by omega), fup_no (by omega), fup_no (by omega)], hR.se (fun x b1 b2 => by funext y; rw [fup_no b2, fup_no b1, fup_no b1, fup_no b1]) (fun k b1 => by rw [fup_ne b1, fup_no (by omega), fup_no (by omega), fup_no (by omega)]) ⟨fup_self, by omega, fun i hi => ?_⟩⟩
           unfold seA
           by_cases hit : i = sn
           · subst hit
             refine ⟨?_, ?_, ?_⟩
             · (repeat (first | rw [fup_self] | rw [fup_ne (by omega)])); (repeat rw [fup_no (by omega)]); (repeat (first | rw [fup_self] | rw [fup_ne (by omega)])); exact congrArg nI (by simp)
             · (repeat (first | rw [fup_self] | rw [fup_ne (by omega)])); (repeat rw [fup_no (by omega)]); (repeat (first | rw [fup_self] | rw [fup_ne (by omega)])); exact congrArg nI (by simp)
             · (repeat (first | rw [fup_self] | rw [fup_ne (by omega)])); (repeat rw [fup_no (by omega)]); (repeat (first | rw [fup_self] | rw [fup_ne (by omega)])); exact congrArg nI (by simp)
           · have h3 := hS.2.2 i (by omega)
             refine ⟨?_, ?_, ?_⟩
             · rw [fup_no (by omega), fup_ne (by omega), fup_ne (by omega), fup_ne (by omega), if_neg hit]; exact h3.1
             · rw [fup_no (by omega), fup_ne (by omega), fup_ne (by omega), fup_ne (by omega), if_neg hit]; exact h3.2.1
             · rw [fup_no (by omega), fup_ne (by omega), fup_ne (by omega), fup_ne (by omega), if_neg hit]; exact h3.2.2)
  ·
    refine w_iload_n k159_19 rfl ?_
    refine w_sI k159_20 (by decide) mt94 [_] rfl rfl rfl (mp_isRow _) ?_
    refine w_if_ne k159_23 (fun h23 => ?_) (fun h23 => absurd h23 (bI_n0.mpr ((row0_or hw0).resolve_left h16)))
    refine w_aload_n k159_28 rfl rfl ?_
    refine w_geti k159_29 (k := 21) kd137 (by decide) ?_
    rw [hS.1]
    refine w_bipush k159_32 ?_
    refine w_icmp_ne k159_34 (fun h34 => ?_) (fun h34 => ?_)
    ·
      have hz : sn < 6 := by
        have : ¬ sn = 6 := fun hh => h34 (by rw [hh]; rfl)
        omega
      rw [if_pos hz, if_pos hz, if_pos hz]
      refine w_aload_n k159_40 rfl rfl ?_
      refine w_getr k159_41 (k := 22) kd137 (by decide) (r137_22 G) ?_
      refine w_iconst k159_44 ?_
      refine w_aload_n k159_45 rfl rfl ?_
      refine w_geti k159_46 (k := 21) kd137 (by decide) ?_
      rw [hS.1]
      refine w_imul k159_49 ?_
      refine w_top (nI (3 * sn)) (pk_mul 3 _) ?_
      refine w_iload_n k159_50 rfl ?_
      refine w_iast k159_51 kd151 (nI_pos (by omega)) (nI_clamp (by omega)) (by omega) ?_
      refine w_aload_n k159_52 rfl rfl ?_
      refine w_getr k159_53 (k := 22) kd137 (by decide) (r137_22 G) ?_
      refine w_iconst k159_56 ?_
      refine w_aload_n k159_57 rfl rfl ?_
      refine w_geti k159_58 (k := 21) kd137 (by decide) ?_
      rw [fup_no (by omega), hS.1]
      refine w_imul k159_61 ?_
      refine w_top (nI (3 * sn)) (pk_mul 3 _) ?_
      refine w_iconst k159_62 ?_
      refine w_iadd k159_63 ?_
      refine w_top (nI (3 * sn + 1)) (nI_add _ 1) ?_
      refine w_iload_n k159_64 rfl ?_
      refine w_iast k159_65 kd151 (nI_pos (by omega)) (nI_clamp (by omega)) (by omega) ?_
      refine w_aload_n k159_66 rfl rfl ?_
      refine w_getr k159_67 (k := 22) kd137 (by decide) (r137_22 G) ?_
      refine w_iconst k159_70 ?_
      refine w_aload_n k159_71 rfl rfl ?_
      refine w_geti k159_72 (k := 21) kd137 (by decide) ?_
      rw [fup_no (by omega), fup_no (by omega), hS.1]
      refine w_imul k159_75 ?_
      refine w_top (nI (3 * sn)) (pk_mul 3 _) ?_
      refine w_iconst k159_76 ?_
      refine w_iadd k159_77 ?_
      refine w_top (nI (3 * sn + 2)) (nI_add _ 2) ?_
      refine w_iload_n k159_78 rfl ?_
      refine w_iast k159_79 kd151 (nI_pos (by omega)) (nI_clamp (by omega)) (by omega) ?_
      refine w_aload_n k159_80 rfl rfl ?_
      refine w_dup k159_81 rfl ?_
      refine w_geti k159_82 (k := 21) kd137 (by decide) ?_
      rw [fup_no (by omega), fup_no (by omega), fup_no (by omega), hS.1]
      refine w_iconst k159_85 ?_
      refine w_iadd k159_86 ?_
      refine w_top (nI (sn + 1)) (nI_1 _) ?_
      refine w_puti k159_87 (k := 21) kd137 (by decide) ?_
      refine w_aload_n k159_90 rfl rfl ?_
      refine w_geti k159_91 (k := 21) kd137 (by decide) ?_
      rw [fup_self]
      refine w_iret k159_94 mt159 (.int) rfl (rfl) ?_
      first
        | exact MdQ.same hR
        | (refine ⟨rfl, rfl, rfl, fun x hx => by funext y; rw [fup_no (by omega), fup_no (by omega), fup_no (by omega), fup_no (by omega)], hR.se (fun x b1 b2 => by funext y; rw [fup_no b2, fup_no b1, fup_no b1, fup_no b1]) (fun k b1 => by rw [fup_ne b1, fup_no (by omega), fup_no (by omega), fup_no (by omega)]) ⟨fup_self, by omega, fun i hi => ?_⟩⟩
           unfold seA
           by_cases hit : i = sn
           · subst hit
             refine ⟨?_, ?_, ?_⟩
             · (repeat (first | rw [fup_self] | rw [fup_ne (by omega)])); (repeat rw [fup_no (by omega)]); (repeat (first | rw [fup_self] | rw [fup_ne (by omega)])); exact congrArg nI (by simp)
             · (repeat (first | rw [fup_self] | rw [fup_ne (by omega)])); (repeat rw [fup_no (by omega)]); (repeat (first | rw [fup_self] | rw [fup_ne (by omega)])); exact congrArg nI (by simp)
             · (repeat (first | rw [fup_self] | rw [fup_ne (by omega)])); (repeat rw [fup_no (by omega)]); (repeat (first | rw [fup_self] | rw [fup_ne (by omega)])); exact congrArg nI (by simp)
           · have h3 := hS.2.2 i (by omega)
             refine ⟨?_, ?_, ?_⟩
             · rw [fup_no (by omega), fup_ne (by omega), fup_ne (by omega), fup_ne (by omega), if_neg hit]; exact h3.1
             · rw [fup_no (by omega), fup_ne (by omega), fup_ne (by omega), fup_ne (by omega), if_neg hit]; exact h3.2.1
             · rw [fup_no (by omega), fup_ne (by omega), fup_ne (by omega), fup_ne (by omega), if_neg hit]; exact h3.2.2)
    ·
      have hz : ¬ sn < 6 := by
        have := (nI_eq (b := 6) (by omega) (by omega)).mp h34
        omega
      rw [if_neg hz, if_neg hz, if_neg hz]
      refine w_bipush k159_37 ?_
      refine w_iret k159_39 mt159 (.int) rfl (rfl) ?_
      first
        | exact MdQ.same hR
        | (refine ⟨rfl, rfl, rfl, fun x hx => by funext y; rw [fup_no (by omega), fup_no (by omega), fup_no (by omega), fup_no (by omega)], hR.se (fun x b1 b2 => by funext y; rw [fup_no b2, fup_no b1, fup_no b1, fup_no b1]) (fun k b1 => by rw [fup_ne b1, fup_no (by omega), fup_no (by omega), fup_no (by omega)]) ⟨fup_self, by omega, fun i hi => ?_⟩⟩
           unfold seA
           by_cases hit : i = sn
           · subst hit
             refine ⟨?_, ?_, ?_⟩
             · (repeat (first | rw [fup_self] | rw [fup_ne (by omega)])); (repeat rw [fup_no (by omega)]); (repeat (first | rw [fup_self] | rw [fup_ne (by omega)])); exact congrArg nI (by simp)
             · (repeat (first | rw [fup_self] | rw [fup_ne (by omega)])); (repeat rw [fup_no (by omega)]); (repeat (first | rw [fup_self] | rw [fup_ne (by omega)])); exact congrArg nI (by simp)
             · (repeat (first | rw [fup_self] | rw [fup_ne (by omega)])); (repeat rw [fup_no (by omega)]); (repeat (first | rw [fup_self] | rw [fup_ne (by omega)])); exact congrArg nI (by simp)
           · have h3 := hS.2.2 i (by omega)
             refine ⟨?_, ?_, ?_⟩
             · rw [fup_no (by omega), fup_ne (by omega), fup_ne (by omega), fup_ne (by omega), if_neg hit]; exact h3.1
             · rw [fup_no (by omega), fup_ne (by omega), fup_ne (by omega), fup_ne (by omega), if_neg hit]; exact h3.2.1
             · rw [fup_no (by omega), fup_ne (by omega), fup_ne (by omega), fup_ne (by omega), if_neg hit]; exact h3.2.2)
set_option maxHeartbeats 1000000 in
theorem mp_see0 {S : Scr} {d : Nat} {f : FF} {g : GG} {B : Nat} {tx : Nat → Nat} {tl : Nat} {V : Va} {M : Nat → Nat → Nat} {uN : Nat} {uL : Nat → Nat → Nat → Nat} {kN : Nat} {kL : Nat → Nat → Nat → Nat} {sn : Nat} {se : Nat → Nat → Nat} (G : GOm g) (hR : MRl f g tx tl V M uN uL kN kL sn se) (hW : StW B tx tl V M uN uL kN kL sn se) (h1 : 1 ≤ V.1) {x y z : Int32} (hb : ¬ ((0 ≤ x ∧ x < nI V.1) ∧ isRowI y = true ∧ isRow0 z = true)) : Wp S (d + 2) 159 0 [some (.ref 137), some (.int x), some (.int y), some (.int z)] [] 153 f g (MdQ f g (-1) tx tl V M uN uL kN kL sn se) := by
  obtain ⟨g0, hL, hVa, hA, hU, hK, hS⟩ := id hR
  have h200 := hL.2.1
  have hV := hW.2.1
  have hM := hW.2.2.1.1
  have h9 := hV.1
  have hm6 := hM.1
  have hmt := hM.2.1
  have hmi := hM.2.2.1
  refine w_aload_n k159_0 rfl rfl ?_
  refine w_iload_n k159_1 rfl ?_
  refine w_vI k159_2 mt78 kd137 ⟨rfl, by decide⟩ [_] rfl rfl rfl (mp_isChair G hVa h9 h1 _) ?_
  refine w_if_eq k159_5 (fun h5 => ?_) (fun h5 => ?_)
  ·
    refine w_iconst k159_26 ?_
    refine w_iret k159_27 mt159 (.int) rfl (rfl) ?_
    exact MdQ.same hR
  ·
    have x5 := of_decide_eq_true (bI_n0.mp h5)
    refine w_iload_n k159_8 rfl ?_
    refine w_sI k159_9 (by decide) mt94 [_] rfl rfl rfl (mp_isRow _) ?_
    refine w_if_eq k159_12 (fun h12 => ?_) (fun h12 => ?_)
    ·
      refine w_iconst k159_26 ?_
      refine w_iret k159_27 mt159 (.int) rfl (rfl) ?_
      exact MdQ.same hR
    ·
      have x12 := bI_n0.mp h12
      refine w_iload_n k159_15 rfl ?_
      refine w_if_eq k159_16 (fun h16 => absurd h16 (fun hh => hb ⟨x5, x12, by rw [hh]; rfl⟩)) (fun h16 => ?_)
      refine w_iload_n k159_19 rfl ?_
      refine w_sI k159_20 (by decide) mt94 [_] rfl rfl rfl (mp_isRow _) ?_
      refine w_if_ne k159_23 (fun h23 => absurd (bI_0.mpr (Bool.eq_false_iff.mpr fun hh => hb ⟨x5, x12, row0_r hh⟩)) h23) (fun h23 => ?_)
      refine w_iconst k159_26 ?_
      refine w_iret k159_27 mt159 (.int) rfl (rfl) ?_
      exact MdQ.same hR
set_option maxHeartbeats 1000000 in
theorem mp_forget {S : Scr} {d : Nat} {f : FF} {g : GG} {B : Nat} {tx : Nat → Nat} {tl : Nat} {V : Va} {M : Nat → Nat → Nat} {uN : Nat} {uL : Nat → Nat → Nat → Nat} {kN : Nat} {kL : Nat → Nat → Nat → Nat} {sn : Nat} {se : Nat → Nat → Nat} (G : GOm g) (hR : MRl f g tx tl V M uN uL kN kL sn se) (hW : StW B tx tl V M uN uL kN kL sn se) (h1 : 1 ≤ V.1)  : Wp S d 161 0 [some (.ref 137), none] [] 153 f g (MdQ f g (nI sn) tx tl V M uN uL kN kL 0 se) := by
  obtain ⟨g0, hL, hVa, hA, hU, hK, hS⟩ := id hR
  have h200 := hL.2.1
  have hV := hW.2.1
  have hM := hW.2.2.1.1
  have h9 := hV.1
  have hm6 := hM.1
  have hmt := hM.2.1
  have hmi := hM.2.2.1
  refine w_aload_n k161_0 rfl rfl ?_
  refine w_geti k161_1 (k := 21) kd137 (by decide) ?_
  rw [hS.1]
  refine w_istore_n k161_4 (ls' := [_, _]) rfl ?_
  refine w_aload_n k161_5 rfl rfl ?_
  refine w_iconst k161_6 ?_
  refine w_puti k161_7 (k := 21) kd137 (by decide) ?_
  refine w_iload_n k161_10 rfl ?_
  refine w_iret k161_11 mt161 (.int) rfl (rfl) ?_
  exact ⟨rfl, rfl, rfl, fun x hx => by funext y; rw [fup_no (by omega)], hR.se (fun x b1 b2 => by funext y; rw [fup_no b2]) (fun k b1 => by rw [fup_ne b1]) ⟨fup_self, by omega, fun i hi => absurd hi (Nat.not_lt_zero i)⟩⟩
set_option maxHeartbeats 1000000 in
theorem mp_count {S : Scr} {d : Nat} {f : FF} {g : GG} {B : Nat} {tx : Nat → Nat} {tl : Nat} {V : Va} {M : Nat → Nat → Nat} {uN : Nat} {uL : Nat → Nat → Nat → Nat} {kN : Nat} {kL : Nat → Nat → Nat → Nat} {sn : Nat} {se : Nat → Nat → Nat} (G : GOm g) (hR : MRl f g tx tl V M uN uL kN kL sn se) (hW : StW B tx tl V M uN uL kN kL sn se) (h1 : 1 ≤ V.1) {w : Nat} (hw : w < 10) : Wp S (d + 2) 190 0 [some (.ref 137), some (.int (nI w))] [] 153 f g (MdQ f g (nI (ctW tl V M uN kN sn w)) tx tl V M uN uL kN kL sn se) := by
  obtain ⟨g0, hL, hVa, hA, hU, hK, hS⟩ := id hR
  have h200 := hL.2.1
  have hV := hW.2.1
  have hM := hW.2.2.1.1
  have h9 := hV.1
  have hm6 := hM.1
  have hmt := hM.2.1
  have hmi := hM.2.2.1
  obtain ⟨a, u1, u2, u3, u4, u5⟩ := id hU
  refine w_iload_n k190_0 rfl ?_
  rcases (show w = 0 ∨ w = 1 ∨ w = 2 ∨ w = 3 ∨ w = 4 ∨ w = 5 ∨ w = 6 ∨ w = 7 ∨ w = 8 ∨ w = 9 by omega) with rfl | rfl | rfl | rfl | rfl | rfl | rfl | rfl | rfl | rfl
  ·
    refine w_tsw k190_1 (t := 56) (by decide) ?_
    refine w_aload_n k190_56 rfl rfl ?_
    refine w_geti k190_57 (k := 12) kd137 (by decide) ?_
    rw [hVa.1]
    refine w_iret k190_60 mt190 (.int) rfl (rfl) ?_
    exact MdQ.same hR
  ·
    refine w_tsw k190_1 (t := 61) (by decide) ?_
    refine w_aload_n k190_61 rfl rfl ?_
    refine w_getr k190_62 (k := 16) kd137 (by decide) (r137_16 G) ?_
    refine w_iconst k190_65 ?_
    refine w_iald k190_66 kd148 (by decide) (show (2 : Int32).toNatClampNeg = 2 from rfl) (by decide) ?_
    rw [hA.2.2.1]
    refine w_iret k190_67 mt190 (.int) rfl (rfl) ?_
    exact MdQ.same hR
  ·
    refine w_tsw k190_1 (t := 68) (by decide) ?_
    refine w_aload_n k190_68 rfl rfl ?_
    refine w_getr k190_69 (k := 16) kd137 (by decide) (r137_16 G) ?_
    refine w_iconst k190_72 ?_
    refine w_iald k190_73 kd148 (by decide) (show (0 : Int32).toNatClampNeg = 0 from rfl) (by decide) ?_
    rw [hA.1]
    refine w_iret k190_74 mt190 (.int) rfl (rfl) ?_
    exact MdQ.same hR
  ·
    refine w_tsw k190_1 (t := 75) (by decide) ?_
    refine w_aload_n k190_75 rfl rfl ?_
    refine w_getr k190_76 (k := 16) kd137 (by decide) (r137_16 G) ?_
    refine w_iconst k190_79 ?_
    refine w_iald k190_80 kd148 (by decide) (show (1 : Int32).toNatClampNeg = 1 from rfl) (by decide) ?_
    rw [hA.2.1]
    refine w_sI k190_81 (by decide) mt145 [_] rfl rfl rfl (mp_bits hmi) ?_
    refine w_iret k190_84 mt190 (.int) rfl (rfl) ?_
    exact MdQ.same hR
  ·
    refine w_tsw k190_1 (t := 85) (by decide) ?_
    refine w_aload_n k190_85 rfl rfl ?_
    refine w_vI k190_86 mt189 kd137 ⟨rfl, by decide⟩ [] rfl rfl rfl (mp_atChairs G hA hm6 (hM.l12 h9)) ?_
    refine w_iret k190_89 mt190 (.int) rfl (rfl) ?_
    exact MdQ.same hR
  ·
    refine w_tsw k190_1 (t := 90) (by decide) ?_
    refine w_aload_n k190_90 rfl rfl ?_
    refine w_getr k190_91 (k := 16) kd137 (by decide) (r137_16 G) ?_
    refine w_sI k190_94 (by decide) mt111 [_] rfl rfl rfl (mp_outOf kd148 hA hm6 (hM.l12 h9)) ?_
    refine w_iret k190_97 mt190 (.int) rfl (rfl) ?_
    exact MdQ.same hR
  ·
    refine w_tsw k190_1 (t := 98) (by decide) ?_
    refine w_aload_n k190_98 rfl rfl ?_
    refine w_geti k190_99 (k := 21) kd137 (by decide) ?_
    rw [hS.1]
    refine w_iret k190_102 mt190 (.int) rfl (rfl) ?_
    exact MdQ.same hR
  ·
    refine w_tsw k190_1 (t := 103) (by decide) ?_
    refine w_aload_n k190_103 rfl rfl ?_
    refine w_geti k190_104 (k := 18) kd137 (by decide) ?_
    rw [u3]
    refine w_iret k190_107 mt190 (.int) rfl (rfl) ?_
    exact MdQ.same hR
  ·
    refine w_tsw k190_1 (t := 108) (by decide) ?_
    refine w_aload_n k190_108 rfl rfl ?_
    refine w_geti k190_109 (k := 23) kd137 (by decide) ?_
    rw [hK.1]
    refine w_iret k190_112 mt190 (.int) rfl (rfl) ?_
    exact MdQ.same hR
  ·
    refine w_tsw k190_1 (t := 113) (by decide) ?_
    refine w_aload_n k190_113 rfl rfl ?_
    refine w_geti k190_114 (k := 0) kd137 (by decide) ?_
    rw [hL.1]
    refine w_iret k190_117 mt190 (.int) rfl (rfl) ?_
    exact MdQ.same hR
set_option maxHeartbeats 1000000 in
theorem mp_count0 {S : Scr} {d : Nat} {f : FF} {g : GG} {B : Nat} {tx : Nat → Nat} {tl : Nat} {V : Va} {M : Nat → Nat → Nat} {uN : Nat} {uL : Nat → Nat → Nat → Nat} {kN : Nat} {kL : Nat → Nat → Nat → Nat} {sn : Nat} {se : Nat → Nat → Nat} (G : GOm g) (hR : MRl f g tx tl V M uN uL kN kL sn se) (hW : StW B tx tl V M uN uL kN kL sn se) (h1 : 1 ≤ V.1) {y : Int32} (hb : ¬ (0 ≤ y ∧ y ≤ nI 9)) : Wp S (d + 2) 190 0 [some (.ref 137), some (.int y)] [] 153 f g (MdQ f g (-1) tx tl V M uN uL kN kL sn se) := by
  obtain ⟨g0, hL, hVa, hA, hU, hK, hS⟩ := id hR
  have h200 := hL.2.1
  have hV := hW.2.1
  have hM := hW.2.2.1.1
  have h9 := hV.1
  have hm6 := hM.1
  have hmt := hM.2.1
  have hmi := hM.2.2.1
  refine w_iload_n k190_0 rfl ?_
  have hq := out_I (by decide) hb
  refine w_tsw k190_1 (t := 118) (tsw_out hq) ?_
  refine w_iconst k190_118 ?_
  refine w_iret k190_119 mt190 (.int) rfl (rfl) ?_
  exact MdQ.same hR
