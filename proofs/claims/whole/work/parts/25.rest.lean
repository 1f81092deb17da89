/-! SPECS, 16: what is left of valley, message, moment -/
def OffV (f f' : FF) (v : Nat) : Prop := ∀ x, x < v ∨ v + 4 ≤ x → f' x = f x
theorem OffV.rf {f : FF} {a : Nat} : OffV f f a := fun _ _ => rfl
theorem OffV.tr {f f1 f2 : FF} {a : Nat} (h : OffV f f1 a) (h2 : OffV f1 f2 a) : OffV f f2 a := fun x hx => (h2 x hx).trans (h x hx)
theorem OffV.up {f : FF} {a k : Nat} {w : Int32} : OffV f (fup f a k w) a := fun x hx => by funext y; exact fup_no (by omega)
theorem CVa.offv {f f' : FF} {v a : Nat} {V : Va} (h : CVa f v V) (ho : OffV f f' a) (hd : v + 4 ≤ a ∨ a + 4 ≤ v) : CVa f' v V := h.off (ho _ (by omega)) (ho _ (by omega)) (ho _ (by omega)) (ho _ (by omega))
theorem vAdd_on (V : Va) (c : Nat) : vAdd (c, V.2) (V.2.1 c) (V.2.2.1 c) (V.2.2.2 c) = (c + 1, V.2) := by
  have e : ∀ h : Nat → Nat, (fun i => if i = c then h c else h i) = h := fun h => by
    funext i
    split
    · rename_i hi; rw [hi]
    · rfl
  unfold vAdd
  rw [e, e, e]
theorem vcB_on {V : Va} (h : VWf V) {c : Nat} (hc : c < V.1) : vcB (c, V.2) (V.2.1 c) (V.2.2.1 c) (V.2.2.2 c) = true := by
  have h1 := h.2 c hc
  have h9 := h.1
  exact decide_eq_true ⟨by show c < 9; omega, h1.1, ⟨h1.2.1, h1.2.2.1⟩, h1.2.2.2⟩
def VaQ (n : Nat) (f : FF) (g : GG) (a : Nat) (V : Va) : Option Value → Nat → FF → GG → Prop := fun v n' f' g' => v = none ∧ n' = n ∧ g' = g ∧ OffV f f' a ∧ CVa f' a V
theorem or_bit {b c x : Nat} (h : b.testBit x = true) : (b ||| 2 ^ c).testBit x = true := by rw [Nat.testBit_or, h]; rfl
theorem wyW_on {V : Va} {x : Nat} : ∀ t c b, b.testBit x = true → (wyW V t c b).testBit x = true := by
  intro t
  induction t with
  | zero => intro c b h; exact h
  | succ t ih =>
    intro c b h
    simp only [wyW]
    split
    · exact or_bit h
    · exact ih _ _ (or_bit h)
theorem wyW_me {V : Va} {t c b : Nat} : (wyW V (t + 1) c b).testBit c = true := by
  have h : (b ||| 2 ^ c).testBit c = true := by rw [Nat.testBit_or, Nat.testBit_two_pow_self, Bool.or_true]
  simp only [wyW]
  split
  · exact h
  · exact wyW_on _ _ _ h
theorem mtS_ga {V : Va} {w : Nat} : ∀ t c a, a ≤ mtS V w t c a := by
  intro t
  induction t with
  | zero => intro c a; exact Nat.le_refl _
  | succ t ih => intro c a; simp only [mtS]; exact Nat.le_trans (Nat.le_add_right _ _) (ih _ _)
theorem mtS_ge {V : Va} {w x : Nat} (hw : w.testBit x = true) : ∀ t c a, c ≤ x → x < c + t → a + V.2.2.1 x ≤ mtS V w t c a := by
  intro t
  induction t with
  | zero => intro c a h1 h2; omega
  | succ t ih =>
    intro c a h1 h2
    simp only [mtS]
    by_cases hx : c = x
    · subst hx
      rw [if_pos hw]
      exact mtS_ga _ _ _
    · exact Nat.le_trans (by omega) (ih (c + 1) (a + (if w.testBit c = true then V.2.2.1 c else 0)) (by omega) (by omega))
theorem ah_n {w c : Nat} (hw : w < 512) (hc : c < 9) : nI w &&& (((1 : Int32) <<< (nI c &&& 31)) ^^^ (-1)) = nI (w &&& (511 ^^^ 2 ^ c)) := by
  have key : ∀ c : Fin 9, ∀ w : Fin 512, nI w.val &&& (((1 : Int32) <<< (nI c.val &&& 31)) ^^^ (-1)) = nI (w.val &&& (511 ^^^ 2 ^ c.val)) := by decide +kernel
  exact key ⟨c, hc⟩ ⟨w, hw⟩
theorem and_nI (a b : Nat) : nI a &&& nI b = nI (a &&& b) := by
  apply Int32.toBitVec_inj.mp
  show BitVec.ofNat 32 a &&& BitVec.ofNat 32 b = BitVec.ofNat 32 (a &&& b)
  rw [BitVec.ofNat_and]
/-- who has yet to begin it -/
def ahW (V : Va) (μ : Nat → Nat) : Nat := if 0 < μ 4 then wyW V 9 (μ 2) 0 &&& (511 ^^^ 2 ^ μ 2) else wyW V 9 (μ 2) 0
theorem ahW_lt {V : Va} (hV : VWf V) {μ : Nat → Nat} (h : μ 2 < V.1) : ahW V μ < 512 := by
  have := wyW_lt hV 9 (μ 2) 0 h (by omega)
  unfold ahW
  split
  · exact Nat.lt_of_le_of_lt Nat.and_le_left this
  · exact this
def mgW (V : Va) (t : Nat) (μ : Nat → Nat) : Nat := (if μ 1 = 0 then μ 0 - t else 0) + mtS V (wyW V 9 (μ 2) 0) V.1 0 0 - (if 0 < μ 4 then V.2.2.1 (μ 2) - μ 4 else 0)
theorem mgW_n {a b c : Nat} (h : b ≤ c) : nI a - nI b + nI c = nI (a + c - b) := by
  rw [Int32.sub_eq_add_neg, Int32.add_assoc, Int32.add_comm (-nI b), ← Int32.add_assoc, nI_add, ← Int32.sub_eq_add_neg]
  exact nI_sub (by omega)
set_option maxHeartbeats 1000000 in
theorem sp_Vclear {S : Scr} {d : Nat} {f : FF} {g : GG} {n v : Nat} (hv : VaOk n g v) : Wp S d 17 0 [some (.ref v)] [] n f g (Is none n (fup f v 3 0) g) := by
  refine w_aload_n k17_0 rfl rfl ?_
  refine w_iconst k17_1 ?_
  refine w_puti k17_2 (k := 3) hv.1 (by decide) ?_
  refine w_vret k17_5 mt17 rfl ?_
  exact ⟨rfl, rfl, rfl, rfl⟩
set_option maxHeartbeats 1000000 in
theorem lp_Vcopy {S : Scr} {d : Nat} {f : FF} {g : GG} {n a b : Nat} {V : Va} (ha : VaOk n g a) (hb : VaOk n g b) (hB : CVa f b V) (hV : VWf V) (hd : a + 4 ≤ b ∨ b + 4 ≤ a) : ∀ (t j : Nat) (f1 : FF), t + j = V.1 → OffV f f1 a → CVa f1 a (j, V.2) → Wp S (d + 2) 44 6 [some (.ref a), some (.ref b), some (.int (nI j))] [] n f1 g (VaQ n f g a V) := by
  intro t
  induction t with
  | zero =>
    intro j f1 e0 e1 e2
    refine w_iload_n k44_6 rfl ?_
    refine w_aload_n k44_7 rfl rfl ?_
    have h99 := hV.1
    have hB1 := hB.offv e1 (by omega)
    refine w_geti k44_8 (k := 3) hb.1 (by decide) ?_
    rw [hB1.1]
    refine w_icmp_ge k44_11 (fun h11 => ?_) (fun h11 => absurd (nI_le (by omega) (by omega)) h11)
    refine w_vret k44_40 mt44 rfl ?_
    have ej : j = V.1 := by omega
    subst ej
    exact ⟨rfl, rfl, rfl, e1, e2⟩
  | succ t ih =>
    intro j f1 e0 e1 e2
    refine w_iload_n k44_6 rfl ?_
    refine w_aload_n k44_7 rfl rfl ?_
    have h99 := hV.1
    have hB1 := hB.offv e1 (by omega)
    have hj : j < V.1 := by omega
    have hW := hV.2 j hj
    refine w_geti k44_8 (k := 3) hb.1 (by decide) ?_
    rw [hB1.1]
    refine w_icmp_ge k44_11 (fun h11 => absurd h11 (nI_ge (by omega) (by omega))) (fun h11 => ?_)
    refine w_aload_n k44_14 rfl rfl ?_
    refine w_aload_n k44_15 rfl rfl ?_
    refine w_iload_n k44_16 rfl ?_
    refine w_vI k44_17 mt41 hb.1 ⟨rfl, by decide⟩ [_] rfl rfl rfl (sp_kindOf hb hB1 h99 hj) ?_
    refine w_aload_n k44_20 rfl rfl ?_
    refine w_iload_n k44_21 rfl ?_
    refine w_vI k44_22 mt42 hb.1 ⟨rfl, by decide⟩ [_] rfl rfl rfl (sp_paceOf hb hB1 h99 hj) ?_
    refine w_aload_n k44_25 rfl rfl ?_
    refine w_iload_n k44_26 rfl ?_
    refine w_vI k44_27 mt43 hb.1 ⟨rfl, by decide⟩ [_] rfl rfl rfl (sp_nextOf hb hB1 h99 hj) ?_
    refine w_vA k44_30 mt25 ha.1 ⟨rfl, by decide⟩ [_, _, _] rfl rfl rfl (sp_Vadd ha e2 (show j ≤ 9 by omega) (Nat.lt_of_le_of_lt hW.1 (by omega)) (Nat.lt_of_le_of_lt hW.2.2.1 (by omega)) (Nat.lt_of_le_of_lt hW.2.2.2 (by omega))) ?_
    rintro _ _ f2 _ ⟨rfl, rfl, rfl, hO, hR⟩
    rw [if_pos (vcB_on hV hj), vAdd_on] at hR
    refine w_pop k44_33 rfl ?_
    refine w_iinc k44_34 rfl (ls' := [_, _, _]) rfl ?_
    refine w_goto k44_37 ?_
    rw [nI_1]
    exact ih (j + 1) f2 (by omega) (e1.tr hO) hR
set_option maxHeartbeats 1000000 in
theorem sp_Vcopy {S : Scr} {d : Nat} {f : FF} {g : GG} {n a b : Nat} {V : Va} (ha : VaOk n g a) (hb : VaOk n g b) (hB : CVa f b V) (hV : VWf V) (hd : a + 4 ≤ b ∨ b + 4 ≤ a) : Wp S (d + 2) 44 0 [some (.ref a), some (.ref b), none] [] n f g (VaQ n f g a V) := by
  refine w_aload_n k44_0 rfl rfl ?_
  refine w_vV k44_1 mt17 ha.1 ⟨rfl, by decide⟩ [] rfl rfl rfl (sp_Vclear ha) ?_
  refine w_iconst k44_4 ?_
  refine w_istore_n k44_5 (ls' := [_, _, _]) rfl ?_
  exact lp_Vcopy ha hb hB hV hd V.1 0 _ rfl OffV.up ⟨fup_self, fun c hc => absurd hc (Nat.not_lt_zero c)⟩
set_option maxHeartbeats 1000000 in
theorem sp_ahead {S : Scr} {d : Nat} {f : FF} {g : GG} {n m v : Nat} {V : Va} {μ : Nat → Nat} (hm : kd KKl n m = some (1, 6)) (hR : MsR f m μ) (hv : VaOk n g v) (hC : CVa f v V) (hV : VWf V) (hc : μ 2 < V.1) (hle : μ 4 ≤ V.2.2.1 (μ 2)) : Wp S (d + 4) 134 0 [some (.ref m), some (.ref v), none] [] n f g (Is (some (.int (nI (ahW V μ)))) n f g) := by
  refine w_aload_n k134_0 rfl rfl ?_
  refine w_aload_n k134_1 rfl rfl ?_
  have h99 := hV.1
  have hp := hV.2 _ hc
  have hw := wyW_lt hV 9 (μ 2) 0 hc (by omega)
  refine w_geti k134_2 (k := 2) hm (by decide) ?_
  rw [hR 2 (by omega)]
  refine w_vI k134_5 mt127 hv.1 ⟨rfl, by decide⟩ [_] rfl rfl rfl (sp_way hv hC hV hc) ?_
  refine w_istore_n k134_8 (ls' := [_, _, _]) rfl ?_
  refine w_aload_n k134_9 rfl rfl ?_
  refine w_geti k134_10 (k := 4) hm (by decide) ?_
  rw [hR 4 (by omega)]
  refine w_if_le k134_13 (fun h13 => ?_) (fun h13 => ?_)
  ·
    have hz : ¬ 0 < μ 4 := Nat.not_lt.mpr ((nI_leI (b := 0) (by omega) (by omega)).mp h13)
    refine w_iload_n k134_29 rfl ?_
    refine w_iret k134_30 mt134 (.int) rfl (rfl) ?_
    first
      | (rw [show ahW V μ = wyW V 9 (μ 2) 0 &&& (511 ^^^ 2 ^ μ 2) from if_pos hz]; exact ⟨rfl, rfl, rfl, rfl⟩)
      | (rw [show ahW V μ = wyW V 9 (μ 2) 0 from if_neg hz]; exact ⟨rfl, rfl, rfl, rfl⟩)
  ·
    have hz : 0 < μ 4 := Nat.pos_of_ne_zero fun hh => h13 (by rw [hh]; decide)
    refine w_iload_n k134_16 rfl ?_
    refine w_iconst k134_17 ?_
    refine w_aload_n k134_18 rfl rfl ?_
    refine w_geti k134_19 (k := 2) hm (by decide) ?_
    rw [hR 2 (by omega)]
    refine w_ishl k134_22 ?_
    refine w_iconst k134_23 ?_
    refine w_ixor k134_24 ?_
    refine w_iand k134_25 ?_
    refine w_top (nI (wyW V 9 (μ 2) 0 &&& (511 ^^^ 2 ^ μ 2))) (ah_n hw (by omega)) ?_
    refine w_goto k134_26 ?_
    refine w_iret k134_30 mt134 (.int) rfl (rfl) ?_
    first
      | (rw [show ahW V μ = wyW V 9 (μ 2) 0 &&& (511 ^^^ 2 ^ μ 2) from if_pos hz]; exact ⟨rfl, rfl, rfl, rfl⟩)
      | (rw [show ahW V μ = wyW V 9 (μ 2) 0 from if_neg hz]; exact ⟨rfl, rfl, rfl, rfl⟩)
set_option maxHeartbeats 1000000 in
theorem sp_msgMin {S : Scr} {d : Nat} {f : FF} {g : GG} {n m v : Nat} {V : Va} {μ : Nat → Nat} (hm : kd KKl n m = some (1, 6)) (hR : MsR f m μ) (hv : VaOk n g v) (hC : CVa f v V) (hV : VWf V) (hc : μ 2 < V.1) (hle : μ 4 ≤ V.2.2.1 (μ 2)) {t : Nat} (ht : t < 2 ^ 20) (hT : μ 1 = 0 → t ≤ μ 0) (h1 : μ 1 ≤ 2) : Wp S (d + 5) 133 0 [some (.ref m), some (.ref v), some (.int (nI t)), none, none] [] n f g (Is (some (.int (nI (mgW V t μ)))) n f g) := by
  refine w_aload_n k133_0 rfl rfl ?_
  have h99 := hV.1
  have hp := hV.2 _ hc
  have hmt : 0 + V.2.2.1 (μ 2) ≤ mtS V (wyW V 9 (μ 2) 0) V.1 0 0 := mtS_ge (V := V) (wyW_me (V := V) (t := 8) (c := μ 2) (b := 0)) V.1 0 0 (by omega) (by omega)
  refine w_geti k133_1 (k := 1) hm (by decide) ?_
  rw [hR 1 (by omega)]
  refine w_if_ne k133_4 (fun h4 => ?_) (fun h4 => ?_)
  ·
    have hz : ¬ μ 1 = 0 := fun hh => h4 (by rw [hh]; decide)
    refine w_iconst k133_16 ?_
    refine w_top (nI 0) (rfl) ?_
    refine w_istore_n k133_17 (ls' := [_, _, _, _, _]) rfl ?_
    refine w_aload_n k133_18 rfl rfl ?_
    refine w_geti k133_19 (k := 4) hm (by decide) ?_
    rw [hR 4 (by omega)]
    refine w_if_le k133_22 (fun h22 => ?_) (fun h22 => ?_)
    ·
      have hy : ¬ 0 < μ 4 := Nat.not_lt.mpr ((nI_leI (b := 0) (by omega) (by omega)).mp h22)
      refine w_iconst k133_41 ?_
      refine w_top (nI 0) (rfl) ?_
      refine w_istore k133_42 (ls' := [_, _, _, _, _]) rfl ?_
      refine w_iload_n k133_44 rfl ?_
      refine w_iload k133_45 rfl ?_
      refine w_isub k133_47 ?_
      refine w_aload_n k133_48 rfl rfl ?_
      refine w_aload_n k133_49 rfl rfl ?_
      refine w_geti k133_50 (k := 2) hm (by decide) ?_
      rw [hR 2 (by omega)]
      refine w_vI k133_53 mt128 hv.1 ⟨rfl, by decide⟩ [_] rfl rfl rfl (sp_minSea hv hC hV hc) ?_
      refine w_iadd k133_56 ?_
      refine w_iret k133_57 mt133 (.int) rfl (rfl) ?_
      refine ⟨?_, rfl, rfl, rfl⟩
      unfold mgW
      first
        | (rw [if_pos hz, if_pos hy]; exact congrArg (fun x => some (Value.int x)) (mgW_n (a := μ 0 - t) (b := V.2.2.1 (μ 2) - μ 4) (c := mtS V (wyW V 9 (μ 2) 0) V.1 0 0) (by omega)))
        | (rw [if_pos hz, if_neg hy]; exact congrArg (fun x => some (Value.int x)) (mgW_n (a := μ 0 - t) (b := 0) (c := mtS V (wyW V 9 (μ 2) 0) V.1 0 0) (by omega)))
        | (rw [if_neg hz, if_pos hy]; exact congrArg (fun x => some (Value.int x)) (mgW_n (a := 0) (b := V.2.2.1 (μ 2) - μ 4) (c := mtS V (wyW V 9 (μ 2) 0) V.1 0 0) (by omega)))
        | (rw [if_neg hz, if_neg hy]; exact congrArg (fun x => some (Value.int x)) (mgW_n (a := 0) (b := 0) (c := mtS V (wyW V 9 (μ 2) 0) V.1 0 0) (by omega)))
    ·
      have hy : 0 < μ 4 := Nat.pos_of_ne_zero fun hh => h22 (by rw [hh]; decide)
      refine w_aload_n k133_25 rfl rfl ?_
      refine w_aload_n k133_26 rfl rfl ?_
      refine w_geti k133_27 (k := 2) hm (by decide) ?_
      rw [hR 2 (by omega)]
      refine w_vI k133_30 mt42 hv.1 ⟨rfl, by decide⟩ [_] rfl rfl rfl (sp_paceOf hv hC hV.1 hc) ?_
      refine w_aload_n k133_33 rfl rfl ?_
      refine w_geti k133_34 (k := 4) hm (by decide) ?_
      rw [hR 4 (by omega)]
      refine w_isub k133_37 ?_
      refine w_top (nI (V.2.2.1 (μ 2) - μ 4)) (nI_sub hle) ?_
      refine w_goto k133_38 ?_
      refine w_istore k133_42 (ls' := [_, _, _, _, _]) rfl ?_
      refine w_iload_n k133_44 rfl ?_
      refine w_iload k133_45 rfl ?_
      refine w_isub k133_47 ?_
      refine w_aload_n k133_48 rfl rfl ?_
      refine w_aload_n k133_49 rfl rfl ?_
      refine w_geti k133_50 (k := 2) hm (by decide) ?_
      rw [hR 2 (by omega)]
      refine w_vI k133_53 mt128 hv.1 ⟨rfl, by decide⟩ [_] rfl rfl rfl (sp_minSea hv hC hV hc) ?_
      refine w_iadd k133_56 ?_
      refine w_iret k133_57 mt133 (.int) rfl (rfl) ?_
      refine ⟨?_, rfl, rfl, rfl⟩
      unfold mgW
      first
        | (rw [if_pos hz, if_pos hy]; exact congrArg (fun x => some (Value.int x)) (mgW_n (a := μ 0 - t) (b := V.2.2.1 (μ 2) - μ 4) (c := mtS V (wyW V 9 (μ 2) 0) V.1 0 0) (by omega)))
        | (rw [if_pos hz, if_neg hy]; exact congrArg (fun x => some (Value.int x)) (mgW_n (a := μ 0 - t) (b := 0) (c := mtS V (wyW V 9 (μ 2) 0) V.1 0 0) (by omega)))
        | (rw [if_neg hz, if_pos hy]; exact congrArg (fun x => some (Value.int x)) (mgW_n (a := 0) (b := V.2.2.1 (μ 2) - μ 4) (c := mtS V (wyW V 9 (μ 2) 0) V.1 0 0) (by omega)))
        | (rw [if_neg hz, if_neg hy]; exact congrArg (fun x => some (Value.int x)) (mgW_n (a := 0) (b := 0) (c := mtS V (wyW V 9 (μ 2) 0) V.1 0 0) (by omega)))
  ·
    have hz : μ 1 = 0 := (nI_eq (b := 0) (by omega) (by omega)).mp h4
    refine w_aload_n k133_7 rfl rfl ?_
    refine w_geti k133_8 (k := 0) hm (by decide) ?_
    rw [hR 0 (by omega)]
    refine w_iload_n k133_11 rfl ?_
    refine w_isub k133_12 ?_
    refine w_top (nI (μ 0 - t)) (nI_sub (hT hz)) ?_
    refine w_goto k133_13 ?_
    refine w_istore_n k133_17 (ls' := [_, _, _, _, _]) rfl ?_
    refine w_aload_n k133_18 rfl rfl ?_
    refine w_geti k133_19 (k := 4) hm (by decide) ?_
    rw [hR 4 (by omega)]
    refine w_if_le k133_22 (fun h22 => ?_) (fun h22 => ?_)
    ·
      have hy : ¬ 0 < μ 4 := Nat.not_lt.mpr ((nI_leI (b := 0) (by omega) (by omega)).mp h22)
      refine w_iconst k133_41 ?_
      refine w_top (nI 0) (rfl) ?_
      refine w_istore k133_42 (ls' := [_, _, _, _, _]) rfl ?_
      refine w_iload_n k133_44 rfl ?_
      refine w_iload k133_45 rfl ?_
      refine w_isub k133_47 ?_
      refine w_aload_n k133_48 rfl rfl ?_
      refine w_aload_n k133_49 rfl rfl ?_
      refine w_geti k133_50 (k := 2) hm (by decide) ?_
      rw [hR 2 (by omega)]
      refine w_vI k133_53 mt128 hv.1 ⟨rfl, by decide⟩ [_] rfl rfl rfl (sp_minSea hv hC hV hc) ?_
      refine w_iadd k133_56 ?_
      refine w_iret k133_57 mt133 (.int) rfl (rfl) ?_
      refine ⟨?_, rfl, rfl, rfl⟩
      unfold mgW
      first
        | (rw [if_pos hz, if_pos hy]; exact congrArg (fun x => some (Value.int x)) (mgW_n (a := μ 0 - t) (b := V.2.2.1 (μ 2) - μ 4) (c := mtS V (wyW V 9 (μ 2) 0) V.1 0 0) (by omega)))
        | (rw [if_pos hz, if_neg hy]; exact congrArg (fun x => some (Value.int x)) (mgW_n (a := μ 0 - t) (b := 0) (c := mtS V (wyW V 9 (μ 2) 0) V.1 0 0) (by omega)))
        | (rw [if_neg hz, if_pos hy]; exact congrArg (fun x => some (Value.int x)) (mgW_n (a := 0) (b := V.2.2.1 (μ 2) - μ 4) (c := mtS V (wyW V 9 (μ 2) 0) V.1 0 0) (by omega)))
        | (rw [if_neg hz, if_neg hy]; exact congrArg (fun x => some (Value.int x)) (mgW_n (a := 0) (b := 0) (c := mtS V (wyW V 9 (μ 2) 0) V.1 0 0) (by omega)))
    ·
      have hy : 0 < μ 4 := Nat.pos_of_ne_zero fun hh => h22 (by rw [hh]; decide)
      refine w_aload_n k133_25 rfl rfl ?_
      refine w_aload_n k133_26 rfl rfl ?_
      refine w_geti k133_27 (k := 2) hm (by decide) ?_
      rw [hR 2 (by omega)]
      refine w_vI k133_30 mt42 hv.1 ⟨rfl, by decide⟩ [_] rfl rfl rfl (sp_paceOf hv hC hV.1 hc) ?_
      refine w_aload_n k133_33 rfl rfl ?_
      refine w_geti k133_34 (k := 4) hm (by decide) ?_
      rw [hR 4 (by omega)]
      refine w_isub k133_37 ?_
      refine w_top (nI (V.2.2.1 (μ 2) - μ 4)) (nI_sub hle) ?_
      refine w_goto k133_38 ?_
      refine w_istore k133_42 (ls' := [_, _, _, _, _]) rfl ?_
      refine w_iload_n k133_44 rfl ?_
      refine w_iload k133_45 rfl ?_
      refine w_isub k133_47 ?_
      refine w_aload_n k133_48 rfl rfl ?_
      refine w_aload_n k133_49 rfl rfl ?_
      refine w_geti k133_50 (k := 2) hm (by decide) ?_
      rw [hR 2 (by omega)]
      refine w_vI k133_53 mt128 hv.1 ⟨rfl, by decide⟩ [_] rfl rfl rfl (sp_minSea hv hC hV hc) ?_
      refine w_iadd k133_56 ?_
      refine w_iret k133_57 mt133 (.int) rfl (rfl) ?_
      refine ⟨?_, rfl, rfl, rfl⟩
      unfold mgW
      first
        | (rw [if_pos hz, if_pos hy]; exact congrArg (fun x => some (Value.int x)) (mgW_n (a := μ 0 - t) (b := V.2.2.1 (μ 2) - μ 4) (c := mtS V (wyW V 9 (μ 2) 0) V.1 0 0) (by omega)))
        | (rw [if_pos hz, if_neg hy]; exact congrArg (fun x => some (Value.int x)) (mgW_n (a := μ 0 - t) (b := 0) (c := mtS V (wyW V 9 (μ 2) 0) V.1 0 0) (by omega)))
        | (rw [if_neg hz, if_pos hy]; exact congrArg (fun x => some (Value.int x)) (mgW_n (a := 0) (b := V.2.2.1 (μ 2) - μ 4) (c := mtS V (wyW V 9 (μ 2) 0) V.1 0 0) (by omega)))
        | (rw [if_neg hz, if_neg hy]; exact congrArg (fun x => some (Value.int x)) (mgW_n (a := 0) (b := 0) (c := mtS V (wyW V 9 (μ 2) 0) V.1 0 0) (by omega)))
set_option maxHeartbeats 1000000 in
theorem sp_holding {S : Scr} {d : Nat} {f : FF} {g : GG} {n m v : Nat} {V : Va} {μ : Nat → Nat} (hm : kd KKl n m = some (1, 6)) (hR : MsR f m μ) (hv : VaOk n g v) (hC : CVa f v V) (hV : VWf V) (hc : μ 2 < V.1) (hle : μ 4 ≤ V.2.2.1 (μ 2)) {a : Nat} {M : Nat → Nat → Nat} (ha : MoOk n g a) (hA : CMo f a M) : Wp S (d + 5) 135 0 [some (.ref a), some (.ref m), some (.ref v)] [] n f g (Is (some (.int (nI (ahW V μ &&& M 0 1)))) n f g) := by
  refine w_aload_n k135_0 rfl rfl ?_
  refine w_aload_n k135_1 rfl rfl ?_
  refine w_vI k135_2 mt134 hm ⟨rfl, by decide⟩ [_] rfl rfl rfl (sp_ahead hm hR hv hC hV hc hle) ?_
  refine w_aload_n k135_5 rfl rfl ?_
  refine w_geti k135_6 (k := 4) ha.1 (by decide) ?_
  rw [hA.2.2.1]
  refine w_iand k135_9 ?_
  refine w_top (nI (ahW V μ &&& M 0 1)) (and_nI _ _) ?_
  refine w_iret k135_10 mt135 (.int) rfl (rfl) ?_
  exact ⟨rfl, rfl, rfl, rfl⟩
set_option maxHeartbeats 1000000 in
theorem sp_together {S : Scr} {d : Nat} {f : FF} {g : GG} {n a i j : Nat} {V : Va} {M : Nat → Nat → Nat} (ha : MoOk n g a) (hA : CMo f a M) (hW : MoW V M) (hV : VWf V) (hi : i < M 0 2) (hj : j < M 0 2) : Wp S (d + 1) 148 0 [some (.ref a), some (.int (nI i)), some (.int (nI j)), none] [] n f g (Is (some (.int (bI (decide (M (j + 1) 1 = 1 ∧ M (i + 1) 1 = 1 ∧ M (i + 1) 2 = M (j + 1) 2))))) n f g) := by
  refine w_aload_n k148_0 rfl rfl ?_
  refine w_iload_n k148_1 rfl ?_
  have h99 := hV.1
  have h6 := hW.1
  have wi := hW.2.2.2 i hi
  have wj := hW.2.2.2 j hj
  have Ri := hA.2.2.2 i hi
  have Rj := hA.2.2.2 j hj
  have i1 := wi.2.1
  have i2 := wi.2.2.1
  have j1 := wj.2.1
  have j2 := wj.2.2.1
  refine w_vI k148_2 mt30 ha.1 ⟨rfl, by decide⟩ [_] rfl rfl rfl (sp_get (j := j) ha (by omega)) ?_
  refine w_astore_n k148_5 rfl (ls' := [_, _, _, _]) rfl ?_
  refine w_aload_n k148_6 rfl rfl ?_
  refine w_geti k148_7 (k := 1) (ha.2.2.2.1 j (by omega)) (by decide) ?_
  rw [Rj 1 (by omega)]
  refine w_iconst k148_10 ?_
  refine w_icmp_ne k148_11 (fun h11 => ?_) (fun h11 => ?_)
  ·
    have hz : ¬ M (j + 1) 1 = 1 := fun hh => h11 (by rw [hh]; decide)
    refine w_iconst k148_33 ?_
    refine w_iret k148_34 mt148 (.boolean) rfl (rfl) ?_
    first
      | (rw [decide_eq_true ⟨hz, hy.1, hy.2⟩]; exact ⟨rfl, rfl, rfl, rfl⟩)
      | (rw [decide_eq_false (fun hh => hz hh.1)]; exact ⟨rfl, rfl, rfl, rfl⟩)
      | (rw [decide_eq_false (fun hh => hy hh.2)]; exact ⟨rfl, rfl, rfl, rfl⟩)
  ·
    have hz : M (j + 1) 1 = 1 := (nI_eq (b := 1) (by omega) (by omega)).mp h11
    refine w_aload_n k148_14 rfl rfl ?_
    refine w_iload_n k148_15 rfl ?_
    refine w_vI k148_16 mt30 ha.1 ⟨rfl, by decide⟩ [_] rfl rfl rfl (sp_get (j := i) ha (by omega)) ?_
    refine w_aload_n k148_19 rfl rfl ?_
    refine w_geti k148_20 (k := 2) (ha.2.2.2.1 j (by omega)) (by decide) ?_
    rw [Rj 2 (by omega)]
    refine w_vI k148_23 mt75 (ha.2.2.2.1 i (by omega)) ⟨rfl, by decide⟩ [_] rfl rfl rfl (sp_isAt (ha.2.2.2.1 i (by omega)) Ri (by omega) (by omega) (by omega)) ?_
    refine w_if_eq k148_26 (fun h26 => ?_) (fun h26 => ?_)
    ·
      have hy := of_decide_eq_false (bI_0.mp h26)
      refine w_iconst k148_33 ?_
      refine w_iret k148_34 mt148 (.boolean) rfl (rfl) ?_
      first
        | (rw [decide_eq_true ⟨hz, hy.1, hy.2⟩]; exact ⟨rfl, rfl, rfl, rfl⟩)
        | (rw [decide_eq_false (fun hh => hz hh.1)]; exact ⟨rfl, rfl, rfl, rfl⟩)
        | (rw [decide_eq_false (fun hh => hy hh.2)]; exact ⟨rfl, rfl, rfl, rfl⟩)
    ·
      have hy := of_decide_eq_true (bI_n0.mp h26)
      refine w_iconst k148_29 ?_
      refine w_goto k148_30 ?_
      refine w_iret k148_34 mt148 (.boolean) rfl (rfl) ?_
      first
        | (rw [decide_eq_true ⟨hz, hy.1, hy.2⟩]; exact ⟨rfl, rfl, rfl, rfl⟩)
        | (rw [decide_eq_false (fun hh => hz hh.1)]; exact ⟨rfl, rfl, rfl, rfl⟩)
        | (rw [decide_eq_false (fun hh => hy hh.2)]; exact ⟨rfl, rfl, rfl, rfl⟩)
