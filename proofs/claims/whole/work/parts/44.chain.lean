/-! PURE, 1: ways down to the sea -/
/-- a sum over the bits of w below k -/
def sT (h : Nat → Nat) (w : Nat) : Nat → Nat
  | 0 => 0
  | k + 1 => sT h w k + (if w.testBit k = true then h k else 0)
theorem popc_sT (w : Nat) : ∀ k, popc w k = sT (fun _ => 1) w k := by
  intro k
  induction k with
  | zero => rfl
  | succ k ih => simp only [popc, sT, ih]
theorem mtS_sT {V : Va} {w : Nat} : ∀ t c, mtS V w t c (sT V.2.2.1 w c) = sT V.2.2.1 w (c + t) := by
  intro t
  induction t with
  | zero => intro c; rfl
  | succ t ih =>
    intro c
    show mtS V w t (c + 1) (sT V.2.2.1 w c + (if w.testBit c = true then V.2.2.1 c else 0)) = _
    rw [show sT V.2.2.1 w c + (if w.testBit c = true then V.2.2.1 c else 0) = sT V.2.2.1 w (c + 1) from rfl, ih, show c + 1 + t = c + (t + 1) by omega]
theorem tb_or {c W k : Nat} : (2 ^ c ||| W).testBit k = (decide (c = k) || W.testBit k) := by
  rw [Nat.testBit_or, Nat.testBit_two_pow]
theorem tb_big {W c k : Nat} (h : W < 2 ^ c) (hk : c ≤ k) : W.testBit k = false := Nat.testBit_lt_two_pow (Nat.lt_of_lt_of_le h (Nat.pow_le_pow_right (by decide) hk))
theorem sT_lo {h : Nat → Nat} {c W : Nat} : ∀ N, N ≤ c → sT h (2 ^ c ||| W) N = sT h W N := by
  intro N
  induction N with
  | zero => intro _; rfl
  | succ N ih =>
    intro hN
    simp only [sT]
    rw [ih (by omega), tb_or, decide_eq_false (by omega), Bool.false_or]
theorem sT_or {h : Nat → Nat} {c W : Nat} (hW : W < 2 ^ c) : ∀ N, c < N → sT h (2 ^ c ||| W) N = h c + sT h W N := by
  intro N
  induction N with
  | zero => intro hN; omega
  | succ N ih =>
    intro hN
    simp only [sT]
    by_cases hc : c = N
    · subst hc
      rw [sT_lo c (Nat.le_refl c), tb_or, decide_eq_true rfl, Bool.true_or, if_pos rfl, tb_big hW (Nat.le_refl c), if_neg (by decide)]
      omega
    · rw [ih (by omega), tb_or, decide_eq_false hc, Bool.false_or]
      omega
theorem sT_0 {h : Nat → Nat} : ∀ N, sT h 0 N = 0 := by
  intro N
  induction N with
  | zero => rfl
  | succ N ih => simp only [sT, ih, Nat.zero_testBit]; rfl
theorem wyW_or {V : Va} : ∀ t c b, wyW V t c b = b ||| wyW V t c 0 := by
  intro t
  induction t with
  | zero => intro c b; show b = b ||| 0; rw [Nat.or_zero]
  | succ t ih =>
    intro c b
    simp only [wyW]
    split
    · rw [Nat.zero_or]
    · rw [ih _ (b ||| 2 ^ c), ih _ (0 ||| 2 ^ c), Nat.zero_or, Nat.or_assoc]
theorem wyW_fuel {V : Va} (hV : VWf V) : ∀ t t' c b, c < t → c < t' → c < V.1 → wyW V t c b = wyW V t' c b := by
  intro t
  induction t with
  | zero => intro t' c b h; omega
  | succ t ih =>
    intro t' c b h1 h2 hc
    obtain ⟨t', rfl⟩ : ∃ q, t' = q + 1 := ⟨t' - 1, by omega⟩
    have ho := (hV.2 c hc).2.2.2
    simp only [wyW]
    split
    · rfl
    · rename_i hn
      exact ih t' _ _ (by omega) (by omega) (hV.on hc)
theorem cmW_fuel {V : Va} (hV : VWf V) {K : Nat → Nat} : ∀ t t' c r, c < t → c < t' → c < V.1 → cmW V K t c r = cmW V K t' c r := by
  intro t
  induction t with
  | zero => intro t' c r h; omega
  | succ t ih =>
    intro t' c r h1 h2 hc
    obtain ⟨t', rfl⟩ : ∃ q, t' = q + 1 := ⟨t' - 1, by omega⟩
    have ho := (hV.2 c hc).2.2.2
    simp only [cmW]
    split
    · rfl
    · rename_i hn
      exact ih t' _ _ (by omega) (by omega) (hV.on hc)
theorem wyW_top {V : Va} (hV : VWf V) : ∀ t c, c < t → c < V.1 → wyW V t c 0 < 2 ^ (c + 1) := by
  intro t
  induction t with
  | zero => intro c h; omega
  | succ t ih =>
    intro c h hc
    have ho := (hV.2 c hc).2.2.2
    have hp : 2 ^ c < 2 ^ (c + 1) := Nat.pow_lt_pow_right (by decide) (by omega)
    simp only [wyW]
    rw [Nat.zero_or]
    split
    · exact hp
    · rename_i hn
      rw [wyW_or]
      refine Nat.or_lt_two_pow hp ?_
      exact Nat.lt_of_lt_of_le (ih _ (by omega) (hV.on hc)) (Nat.pow_le_pow_right (by decide) (by omega))
theorem way_sea {V : Va} {c : Nat} (hs : V.2.2.2 c = c) : wyW V 9 c 0 = 2 ^ c := by
  show wyW V (8 + 1) c 0 = _
  simp only [wyW]
  rw [if_pos hs, Nat.zero_or]
theorem way_on {V : Va} (hV : VWf V) {c : Nat} (hc : c < V.1) (hs : ¬ V.2.2.2 c = c) : wyW V 9 c 0 = 2 ^ c ||| wyW V 9 (V.2.2.2 c) 0 ∧ wyW V 9 (V.2.2.2 c) 0 < 2 ^ c := by
  have ho := (hV.2 c hc).2.2.2
  have h9 := hV.1
  constructor
  · show wyW V (8 + 1) c 0 = _
    rw [show wyW V (8 + 1) c 0 = wyW V 8 (V.2.2.2 c) (0 ||| 2 ^ c) from if_neg hs, Nat.zero_or, wyW_or, wyW_fuel hV 8 9 _ 0 (by omega) (by omega) (hV.on hc)]
  · exact Nat.lt_of_lt_of_le (wyW_top hV 9 _ (by omega) (hV.on hc)) (Nat.pow_le_pow_right (by decide) (by omega))
theorem com_sea {V : Va} {K : Nat → Nat} {c r : Nat} (hs : V.2.2.2 c = c) : cmW V K 9 c r = kn (K c) r := if_pos hs
theorem com_on {V : Va} (hV : VWf V) {K : Nat → Nat} {c r : Nat} (hc : c < V.1) (hs : ¬ V.2.2.2 c = c) : cmW V K 9 c r = cmW V K 9 (V.2.2.2 c) (kn (K c) r) := by
  have ho := (hV.2 c hc).2.2.2
  have h9 := hV.1
  rw [show cmW V K 9 c r = cmW V K 8 (V.2.2.2 c) (kn (K c) r) from if_neg hs]
  exact cmW_fuel hV 8 9 _ _ (by omega) (by omega) (hV.on hc)
/-- minutes, by the chain -/
abbrev miN (V : Va) (c : Nat) : Nat := mtS V (wyW V 9 c 0) V.1 0 0
theorem mi_sT {V : Va} {c : Nat} : miN V c = sT V.2.2.1 (wyW V 9 c 0) V.1 := by
  have h := mtS_sT (V := V) (w := wyW V 9 c 0) V.1 0
  rw [Nat.zero_add] at h
  exact h
theorem mi_sea {V : Va} {c : Nat} (hc : c < V.1) (hs : V.2.2.2 c = c) : miN V c = V.2.2.1 c := by
  rw [mi_sT, way_sea hs, show (2 : Nat) ^ c = 2 ^ c ||| 0 from (Nat.or_zero _).symm, sT_or (Nat.two_pow_pos c) _ hc, sT_0]
  rfl
theorem mi_on {V : Va} (hV : VWf V) {c : Nat} (hc : c < V.1) (hs : ¬ V.2.2.2 c = c) : miN V c = V.2.2.1 c + miN V (V.2.2.2 c) := by
  have h := way_on hV hc hs
  rw [mi_sT, mi_sT, h.1, sT_or h.2 _ hc]
theorem ln_sea {V : Va} {c : Nat} (hc : c < 9) (hs : V.2.2.2 c = c) : popc (wyW V 9 c 0) 9 = 1 := by
  rw [popc_sT, way_sea hs, show (2 : Nat) ^ c = 2 ^ c ||| 0 from (Nat.or_zero _).symm, sT_or (Nat.two_pow_pos c) _ hc, sT_0]
theorem ln_on {V : Va} (hV : VWf V) {c : Nat} (hc : c < V.1) (hs : ¬ V.2.2.2 c = c) : popc (wyW V 9 c 0) 9 = 1 + popc (wyW V 9 (V.2.2.2 c) 0) 9 := by
  have h := way_on hV hc hs
  have h9 := hV.1
  rw [popc_sT, popc_sT, h.1, sT_or h.2 _ (by omega)]
theorem mi_pos {V : Va} (hV : VWf V) {c : Nat} (hc : c < V.1) : V.2.2.1 c ≤ miN V c := by
  by_cases hs : V.2.2.2 c = c
  · rw [mi_sea hc hs]; exact Nat.le_refl _
  · rw [mi_on hV hc hs]; omega
/-- 511 without c, of a way -/
theorem and_out : ∀ c : Fin 9, ∀ w : Fin 512, ∀ i : Fin 9, (w.val &&& (511 ^^^ 2 ^ c.val)).testBit i.val = (w.val.testBit i.val && decide (i.val ≠ c.val)) := by decide +kernel
theorem and_out_lt {c w : Nat} (hc : c < 9) (hw : w < 512) (i : Nat) : (w &&& (511 ^^^ 2 ^ c)).testBit i = (w.testBit i && decide (i ≠ c)) := by
  by_cases hi : i < 9
  · exact and_out ⟨c, hc⟩ ⟨w, hw⟩ ⟨i, hi⟩
  · have h1 : w.testBit i = false := tb_big (c := 9) hw (by omega)
    have h2 : (w &&& (511 ^^^ 2 ^ c)).testBit i = false := tb_big (c := 9) (Nat.lt_of_le_of_lt Nat.and_le_left hw) (by omega)
    rw [h1, h2]
    rfl
theorem way_rest {V : Va} (hV : VWf V) {c : Nat} (hc : c < V.1) : wyW V 9 c 0 &&& (511 ^^^ 2 ^ c) = if V.2.2.2 c = c then 0 else wyW V 9 (V.2.2.2 c) 0 := by
  have h9 := hV.1
  have hw := wyW_lt hV 9 c 0 hc (by omega)
  apply Nat.eq_of_testBit_eq
  intro i
  rw [and_out_lt (by omega) hw]
  by_cases hs : V.2.2.2 c = c
  · rw [if_pos hs, way_sea hs, Nat.testBit_two_pow, Nat.zero_testBit]
    by_cases hi : c = i
    · rw [decide_eq_true hi, decide_eq_false (fun hh => hh hi.symm)]
      rfl
    · rw [decide_eq_false hi]
      rfl
  · rw [if_neg hs, (way_on hV hc hs).1, tb_or]
    by_cases hi : c = i
    · subst hi
      rw [decide_eq_true rfl, decide_eq_false (fun hh => hh rfl), tb_big (way_on hV hc hs).2 (Nat.le_refl c)]
      rfl
    · rw [decide_eq_false hi, decide_eq_true (Ne.symm hi), Bool.false_or, Bool.and_true]
