/-! SPECS, 7: the valley, on; bits -/
/-- how many of the low k bits -/
def popc (B : Nat) : Nat → Nat
  | 0 => 0
  | k + 1 => popc B k + (if B.testBit k = true then 1 else 0)
/-- a sum over the chairs that are in w -/
def mtS (V : Va) (w : Nat) : Nat → Nat → Nat → Nat
  | 0, _, a => a
  | t + 1, c, a => mtS V w t (c + 1) (a + (if w.testBit c = true then V.2.2.1 c else 0))
def hkS (V : Va) (x : Nat) : Nat → Nat → Nat → Nat
  | 0, _, a => a
  | t + 1, c, a => hkS V x t (c + 1) (a + (if (wyW V 9 c 0).testBit x = true then 1 else 0))
theorem wyW_lt {V : Va} (hV : VWf V) : ∀ t c b, c < V.1 → b < 2 ^ 9 → wyW V t c b < 2 ^ 9 := by
  intro t
  induction t with
  | zero => intro c b _ h; exact h
  | succ t ih =>
    intro c b hc hb
    have h99 := hV.1
    have hp : 2 ^ c < 2 ^ 9 := Nat.pow_lt_pow_right (by omega) (by omega)
    simp only [wyW]
    split
    · exact or_lt hb hp
    · exact ih _ _ (hV.on hc) (or_lt hb hp)
theorem mtS_in {V : Va} {w t c a : Nat} (h : w.testBit c = true) : mtS V w (t + 1) c a = mtS V w t (c + 1) (a + V.2.2.1 c) := by simp [mtS, h]
theorem mtS_out {V : Va} {w t c a : Nat} (h : w.testBit c = false) : mtS V w (t + 1) c a = mtS V w t (c + 1) a := by simp [mtS, h]
theorem hkS_in {V : Va} {x t c a : Nat} (h : (wyW V 9 c 0).testBit x = true) : hkS V x (t + 1) c a = hkS V x t (c + 1) (a + 1) := by simp [hkS, h]
theorem hkS_out {V : Va} {x t c a : Nat} (h : (wyW V 9 c 0).testBit x = false) : hkS V x (t + 1) c a = hkS V x t (c + 1) a := by simp [hkS, h]
theorem mtS_le {V : Va} {w : Nat} (hV : VWf V) : ∀ t c a, t + c = V.1 → mtS V w t c a ≤ a + 20 * t := by
  intro t
  induction t with
  | zero => intro c a _; exact Nat.le_refl _
  | succ t ih =>
    intro c a h
    have := hV.2 c (by omega)
    simp only [mtS]
    refine Nat.le_trans (ih (c + 1) _ (by omega)) ?_
    split <;> omega
def bcE (x0 : Int32) : Int32 :=
  let us := fun (x y : Int32) => (x.toUInt32 >>> (y.toUInt32 &&& Int32.toUInt32 31)).toInt32
  let x1 := x0 - ((us x0 1) &&& 1431655765)
  let x2 := (x1 &&& 858993459) + ((us x1 2) &&& 858993459)
  let x3 := (x2 + us x2 4) &&& 252645135
  let x4 := x3 + us x3 8
  let x5 := x4 + us x4 16
  x5 &&& 63
set_option maxHeartbeats 1000000 in
theorem sp_bitCount {S : Scr} {d : Nat} {f : FF} {g : GG} {n : Nat} {B : Nat} (hB : B < 512) : Wp S d 143 0 [some (.int (nI B))] [] n f g (Is (some (.int (nI (popc B 9)))) n f g) := by
  refine w_iload_n k143_0 rfl ?_
  refine w_iload_n k143_1 rfl ?_
  refine w_iconst k143_2 ?_
  refine w_iushr k143_3 ?_
  refine w_ldc_w k143_4 ?_
  refine w_iand k143_7 ?_
  refine w_isub k143_8 ?_
  refine w_istore_n k143_9 (ls' := [_]) rfl ?_
  refine w_iload_n k143_10 rfl ?_
  refine w_ldc_w k143_11 ?_
  refine w_iand k143_14 ?_
  refine w_iload_n k143_15 rfl ?_
  refine w_iconst k143_16 ?_
  refine w_iushr k143_17 ?_
  refine w_ldc_w k143_18 ?_
  refine w_iand k143_21 ?_
  refine w_iadd k143_22 ?_
  refine w_istore_n k143_23 (ls' := [_]) rfl ?_
  refine w_iload_n k143_24 rfl ?_
  refine w_iload_n k143_25 rfl ?_
  refine w_iconst k143_26 ?_
  refine w_iushr k143_27 ?_
  refine w_iadd k143_28 ?_
  refine w_ldc_w k143_29 ?_
  refine w_iand k143_32 ?_
  refine w_istore_n k143_33 (ls' := [_]) rfl ?_
  refine w_iload_n k143_34 rfl ?_
  refine w_iload_n k143_35 rfl ?_
  refine w_bipush k143_36 ?_
  refine w_iushr k143_38 ?_
  refine w_iadd k143_39 ?_
  refine w_istore_n k143_40 (ls' := [_]) rfl ?_
  refine w_iload_n k143_41 rfl ?_
  refine w_iload_n k143_42 rfl ?_
  refine w_bipush k143_43 ?_
  refine w_iushr k143_45 ?_
  refine w_iadd k143_46 ?_
  refine w_istore_n k143_47 (ls' := [_]) rfl ?_
  refine w_iload_n k143_48 rfl ?_
  refine w_bipush k143_49 ?_
  refine w_iand k143_51 ?_
  refine w_iret k143_52 mt143 (.int) rfl (rfl) ?_
  refine ⟨?_, rfl, rfl, rfl⟩
  congr 2
  have key : ∀ b : Fin 512, bcE (nI b.val) = nI (popc b.val 9) := by decide +kernel
  exact key ⟨B, hB⟩
set_option maxHeartbeats 1000000 in
theorem lp_minSea {S : Scr} {d : Nat} {f : FF} {g : GG} {n v : Nat} {V : Va} (hv : VaOk n g v) (hC : CVa f v V) (hV : VWf V) {w : Nat} (hw : w < 2 ^ 9) {q1 : Int32} : ∀ (t : Nat) (c a : Nat), (t + c = V.1) → (a ≤ 20 * c) → Wp S (d + 4) 128 11 [some (.ref v), some (.int q1), some (.int (nI w)), some (.int (nI a)), some (.int (nI c))] [] n f g (Is (some (.int (nI (mtS V w t c a)))) n f g) := by
  intro t
  induction t with
  | zero =>
    intro c a e0 e1
    refine w_iload k128_11 rfl ?_
    refine w_aload_n k128_13 rfl rfl ?_
    refine w_geti k128_14 (k := 3) hv.1 (by decide) ?_
    rw [hC.1]
    have h99 := hV.1
    refine w_icmp_ge k128_17 (fun h17 => ?_) (fun h17 => absurd (nI_le (by omega) (by omega)) h17)
    refine w_iload_n k128_48 rfl ?_
    refine w_iret k128_49 mt128 (.int) rfl (rfl) ?_
    exact ⟨rfl, rfl, rfl, rfl⟩
  | succ t ih =>
    intro c a e0 e1
    refine w_iload k128_11 rfl ?_
    refine w_aload_n k128_13 rfl rfl ?_
    refine w_geti k128_14 (k := 3) hv.1 (by decide) ?_
    rw [hC.1]
    have h99 := hV.1
    refine w_icmp_ge k128_17 (fun h17 => absurd h17 (nI_ge (by omega) (by omega))) (fun h17 => ?_)
    refine w_iload_n k128_20 rfl ?_
    refine w_iload_n k128_21 rfl ?_
    refine w_iload k128_22 rfl ?_
    refine w_sI k128_24 (by decide) mt34 [_, _] rfl rfl rfl (sp_isIn (by omega) (by omega)) ?_
    refine w_if_eq k128_27 (fun h27 => ?_) (fun h27 => ?_)
    ·
      have hz := bI_0.mp h27
      refine w_iconst k128_39 ?_
      refine w_iadd k128_40 ?_
      refine w_istore_n k128_41 (ls' := [_, _, _, _, _]) rfl ?_
      refine w_iinc k128_42 rfl (ls' := [_, _, _, _, _]) rfl ?_
      refine w_goto k128_45 ?_
      rw [nI_1]
      have hp := hV.2 c (by omega)
      first
        | (rw [mtS_in hz, nI_add]; exact ih _ _ (by omega) (by omega))
        | (rw [mtS_out hz, show nI a + 0 = nI a from nI_add a 0]; exact ih _ _ (by omega) (by omega))
    ·
      have hz := bI_n0.mp h27
      refine w_aload_n k128_30 rfl rfl ?_
      refine w_iload k128_31 rfl ?_
      refine w_vI k128_33 mt42 hv.1 ⟨rfl, by decide⟩ [_] rfl rfl rfl (sp_paceOf hv hC hV.1 (by omega)) ?_
      refine w_goto k128_36 ?_
      refine w_iadd k128_40 ?_
      refine w_istore_n k128_41 (ls' := [_, _, _, _, _]) rfl ?_
      refine w_iinc k128_42 rfl (ls' := [_, _, _, _, _]) rfl ?_
      refine w_goto k128_45 ?_
      rw [nI_1]
      have hp := hV.2 c (by omega)
      first
        | (rw [mtS_in hz, nI_add]; exact ih _ _ (by omega) (by omega))
        | (rw [mtS_out hz, show nI a + 0 = nI a from nI_add a 0]; exact ih _ _ (by omega) (by omega))
set_option maxHeartbeats 1000000 in
theorem sp_minSea {S : Scr} {d : Nat} {f : FF} {g : GG} {n v : Nat} {V : Va} (hv : VaOk n g v) (hC : CVa f v V) (hV : VWf V) {c : Nat} (hc : c < V.1) : Wp S (d + 4) 128 0 [some (.ref v), some (.int (nI c)), none, none, none] [] n f g (Is (some (.int (nI (mtS V (wyW V 9 c 0) V.1 0 0)))) n f g) := by
  refine w_aload_n k128_0 rfl rfl ?_
  refine w_iload_n k128_1 rfl ?_
  refine w_vI k128_2 mt127 hv.1 ⟨rfl, by decide⟩ [_] rfl rfl rfl (sp_way hv hC hV hc) ?_
  refine w_istore_n k128_5 (ls' := [_, _, _, _, _]) rfl ?_
  refine w_iconst k128_6 ?_
  refine w_istore_n k128_7 (ls' := [_, _, _, _, _]) rfl ?_
  refine w_iconst k128_8 ?_
  refine w_istore k128_9 (ls' := [_, _, _, _, _]) rfl ?_
  exact lp_minSea hv hC hV (wyW_lt hV 9 c 0 hc (by omega)) _ 0 0 rfl (by omega)
set_option maxHeartbeats 1000000 in
theorem sp_chairsSea {S : Scr} {d : Nat} {f : FF} {g : GG} {n v : Nat} {V : Va} (hv : VaOk n g v) (hC : CVa f v V) (hV : VWf V) {c : Nat} (hc : c < V.1) : Wp S (d + 4) 171 0 [some (.ref v), some (.int (nI c))] [] n f g (Is (some (.int (nI (popc (wyW V 9 c 0) 9)))) n f g) := by
  refine w_aload_n k171_0 rfl rfl ?_
  refine w_iload_n k171_1 rfl ?_
  refine w_vI k171_2 mt127 hv.1 ⟨rfl, by decide⟩ [_] rfl rfl rfl (sp_way hv hC hV hc) ?_
  refine w_sI k171_5 (by decide) mt143 [_] rfl rfl rfl (sp_bitCount (wyW_lt hV 9 c 0 hc (by omega))) ?_
  refine w_iret k171_8 mt171 (.int) rfl (rfl) ?_
  exact ⟨rfl, rfl, rfl, rfl⟩
set_option maxHeartbeats 1000000 in
theorem lp_hang {S : Scr} {d : Nat} {f : FF} {g : GG} {n v : Nat} {V : Va} (hv : VaOk n g v) (hC : CVa f v V) (hV : VWf V) {x : Nat} (hx : x < 32) : ∀ (t : Nat) (c a : Nat), (t + c = V.1) → Wp S (d + 4) 152 4 [some (.ref v), some (.int (nI x)), some (.int (nI a)), some (.int (nI c))] [] n f g (Is (some (.int (nI (hkS V x t c a)))) n f g) := by
  intro t
  induction t with
  | zero =>
    intro c a e0
    refine w_iload_n k152_4 rfl ?_
    refine w_aload_n k152_5 rfl rfl ?_
    refine w_geti k152_6 (k := 3) hv.1 (by decide) ?_
    rw [hC.1]
    have h99 := hV.1
    refine w_icmp_ge k152_9 (fun h9 => ?_) (fun h9 => absurd (nI_le (by omega) (by omega)) h9)
    refine w_iload_n k152_38 rfl ?_
    refine w_iret k152_39 mt152 (.int) rfl (rfl) ?_
    exact ⟨rfl, rfl, rfl, rfl⟩
  | succ t ih =>
    intro c a e0
    refine w_iload_n k152_4 rfl ?_
    refine w_aload_n k152_5 rfl rfl ?_
    refine w_geti k152_6 (k := 3) hv.1 (by decide) ?_
    rw [hC.1]
    have h99 := hV.1
    have hwl := wyW_lt hV 9 c 0 (by omega) (by omega)
    refine w_icmp_ge k152_9 (fun h9 => absurd h9 (nI_ge (by omega) (by omega))) (fun h9 => ?_)
    refine w_iload_n k152_12 rfl ?_
    refine w_aload_n k152_13 rfl rfl ?_
    refine w_iload_n k152_14 rfl ?_
    refine w_vI k152_15 mt127 hv.1 ⟨rfl, by decide⟩ [_] rfl rfl rfl (sp_way hv hC hV (by omega)) ?_
    refine w_iload_n k152_18 rfl ?_
    refine w_sI k152_19 (by decide) mt34 [_, _] rfl rfl rfl (sp_isIn (by omega) hx) ?_
    refine w_if_eq k152_22 (fun h22 => ?_) (fun h22 => ?_)
    ·
      have hz := bI_0.mp h22
      refine w_iconst k152_29 ?_
      refine w_iadd k152_30 ?_
      refine w_istore_n k152_31 (ls' := [_, _, _, _]) rfl ?_
      refine w_iinc k152_32 rfl (ls' := [_, _, _, _]) rfl ?_
      refine w_goto k152_35 ?_
      rw [nI_1 c]
      try rw [nI_1 a]
      first
        | (rw [hkS_in hz]; exact ih _ _ (by omega))
        | (rw [hkS_out hz, show nI a + 0 = nI a from nI_add a 0]; exact ih _ _ (by omega))
    ·
      have hz := bI_n0.mp h22
      refine w_iconst k152_25 ?_
      refine w_goto k152_26 ?_
      refine w_iadd k152_30 ?_
      refine w_istore_n k152_31 (ls' := [_, _, _, _]) rfl ?_
      refine w_iinc k152_32 rfl (ls' := [_, _, _, _]) rfl ?_
      refine w_goto k152_35 ?_
      rw [nI_1 c]
      try rw [nI_1 a]
      first
        | (rw [hkS_in hz]; exact ih _ _ (by omega))
        | (rw [hkS_out hz, show nI a + 0 = nI a from nI_add a 0]; exact ih _ _ (by omega))
set_option maxHeartbeats 1000000 in
theorem sp_hang {S : Scr} {d : Nat} {f : FF} {g : GG} {n v : Nat} {V : Va} (hv : VaOk n g v) (hC : CVa f v V) (hV : VWf V) {x : Nat} (hx : x < 32) : Wp S (d + 4) 152 0 [some (.ref v), some (.int (nI x)), none, none] [] n f g (Is (some (.int (nI (hkS V x V.1 0 0)))) n f g) := by
  refine w_iconst k152_0 ?_
  refine w_istore_n k152_1 (ls' := [_, _, _, _]) rfl ?_
  refine w_iconst k152_2 ?_
  refine w_istore_n k152_3 (ls' := [_, _, _, _]) rfl ?_
  exact lp_hang hv hC hV hx _ 0 0 rfl
