/-! SPECS, 32: the model, what is undone and kept -/
set_option maxHeartbeats 1000000 in
theorem ml_remember {S : Scr} {d : Nat} {f : FF} {g : GG} {P : Option Value → Nat → FF → GG → Prop} (G : GOm g) {a : Nat} (ha : a < 8) (hF : f 137 19 = nI a) (hk : ∀ f1 : FF, (∀ x, x ≠ 150 → f1 x = f x) → (∀ q, q < 39 → f1 150 (39 * a + q) = f 148 (q)) → (∀ q, (q < 39 * a ∨ 39 * a + 39 ≤ q) → f1 150 q = f 150 q) → Wp S d 107 34 [some (.ref 137), some (.int (nI 39))] [] 153 f1 g P) : ∀ (t k : Nat) (f1 : FF), t + k = 39 → (∀ x, x ≠ 150 → f1 x = f x) → (∀ q, q < k → f1 150 (39 * a + q) = f 148 (q)) → (∀ q, (q < 39 * a ∨ 39 * a + 39 ≤ q) → f1 150 q = f 150 q) → Wp S d 107 2 [some (.ref 137), some (.int (nI k))] [] 153 f1 g P := by
  intro t
  induction t with
  | zero =>
    intro k f1 e0 e1 e2 e3
    obtain rfl : k = 39 := by omega
    refine w_iload_n k107_2 rfl ?_
    refine w_bipush k107_3 ?_
    refine w_icmp_ge k107_5 (fun h5 => ?_) (fun h5 => absurd (nI_le (a := 39) (by omega) (by omega)) h5)
    exact hk f1 e1 (fun q hq => e2 q hq) e3
  | succ t ih =>
    intro k f1 e0 e1 e2 e3
    refine w_iload_n k107_2 rfl ?_
    refine w_bipush k107_3 ?_
    refine w_icmp_ge k107_5 (fun h5 => absurd h5 (nI_ge (b := 39) (by omega) (by omega))) (fun h5 => ?_)
    refine w_aload_n k107_8 rfl rfl ?_
    refine w_getr k107_9 (k := 20) kd137 (by decide) (r137_20 G) ?_
    refine w_bipush k107_12 ?_
    refine w_aload_n k107_14 rfl rfl ?_
    refine w_geti k107_15 (k := 19) kd137 (by decide) ?_
    rw [e1 137 (by omega), hF]
    refine w_imul k107_18 ?_
    refine w_top (nI (39 * a)) (pk_mul 39 a) ?_
    refine w_iload_n k107_19 rfl ?_
    refine w_iadd k107_20 ?_
    refine w_top (nI (39 * a + k)) (nI_add _ _) ?_
    refine w_aload_n k107_21 rfl rfl ?_
    refine w_getr k107_22 (k := 16) kd137 (by decide) (r137_16 G) ?_
    refine w_iload_n k107_25 rfl ?_
    refine w_iald k107_26 kd148 (nI_pos (by omega)) (nI_clamp (by omega)) (by omega) ?_
    refine w_iast k107_27 kd150 (nI_pos (by omega)) (nI_clamp (by omega)) (by omega) ?_
    refine w_iinc k107_28 rfl (ls' := [_, _]) rfl ?_
    refine w_goto k107_31 ?_
    rw [nI_1]
    refine ih (k + 1) _ (by omega) (fun x hx => by funext y; rw [fup_no hx, e1 x hx]) (fun q hq => ?_) (fun q hq => by rw [fup_ne (by omega)]; exact e3 q hq)
    by_cases hqk : q = k
    · subst hqk
      rw [fup_self, e1 148 (by omega)]
    · rw [fup_ne (by omega)]
      exact e2 q (by omega)
set_option maxHeartbeats 1000000 in
theorem ml_undo {S : Scr} {d : Nat} {f : FF} {g : GG} {P : Option Value → Nat → FF → GG → Prop} (G : GOm g) {a : Nat} (ha : a < 8) (hF : f 137 19 = nI a) (hk : ∀ f1 : FF, (∀ x, x ≠ 148 → f1 x = f x) → (∀ q, q < 39 → f1 148 (q) = f 150 (39 * a + q)) → (∀ q, (q < 0 ∨ 39 ≤ q) → f1 148 q = f 148 q) → Wp S d 124 70 [some (.ref 137), some (.int (nI 39))] [] 153 f1 g P) : ∀ (t k : Nat) (f1 : FF), t + k = 39 → (∀ x, x ≠ 148 → f1 x = f x) → (∀ q, q < k → f1 148 (q) = f 150 (39 * a + q)) → (∀ q, (q < 0 ∨ 39 ≤ q) → f1 148 q = f 148 q) → Wp S d 124 38 [some (.ref 137), some (.int (nI k))] [] 153 f1 g P := by
  intro t
  induction t with
  | zero =>
    intro k f1 e0 e1 e2 e3
    obtain rfl : k = 39 := by omega
    refine w_iload_n k124_38 rfl ?_
    refine w_bipush k124_39 ?_
    refine w_icmp_ge k124_41 (fun h41 => ?_) (fun h41 => absurd (nI_le (a := 39) (by omega) (by omega)) h41)
    exact hk f1 e1 (fun q hq => e2 q hq) e3
  | succ t ih =>
    intro k f1 e0 e1 e2 e3
    refine w_iload_n k124_38 rfl ?_
    refine w_bipush k124_39 ?_
    refine w_icmp_ge k124_41 (fun h41 => absurd h41 (nI_ge (b := 39) (by omega) (by omega))) (fun h41 => ?_)
    refine w_aload_n k124_44 rfl rfl ?_
    refine w_getr k124_45 (k := 16) kd137 (by decide) (r137_16 G) ?_
    refine w_iload_n k124_48 rfl ?_
    refine w_aload_n k124_49 rfl rfl ?_
    refine w_getr k124_50 (k := 20) kd137 (by decide) (r137_20 G) ?_
    refine w_bipush k124_53 ?_
    refine w_aload_n k124_55 rfl rfl ?_
    refine w_geti k124_56 (k := 19) kd137 (by decide) ?_
    rw [e1 137 (by omega), hF]
    refine w_imul k124_59 ?_
    refine w_top (nI (39 * a)) (pk_mul 39 a) ?_
    refine w_iload_n k124_60 rfl ?_
    refine w_iadd k124_61 ?_
    refine w_top (nI (39 * a + k)) (nI_add _ _) ?_
    refine w_iald k124_62 kd150 (nI_pos (by omega)) (nI_clamp (by omega)) (by omega) ?_
    refine w_iast k124_63 kd148 (nI_pos (by omega)) (nI_clamp (by omega)) (by omega) ?_
    refine w_iinc k124_64 rfl (ls' := [_, _]) rfl ?_
    refine w_goto k124_67 ?_
    rw [nI_1]
    refine ih (k + 1) _ (by omega) (fun x hx => by funext y; rw [fup_no hx, e1 x hx]) (fun q hq => ?_) (fun q hq => by rw [fup_ne (by omega)]; exact e3 q hq)
    by_cases hqk : q = k
    · subst hqk
      rw [fup_self, e1 150 (by omega)]
    · rw [fup_ne (by omega)]
      exact e2 q (by omega)
set_option maxHeartbeats 1000000 in
theorem ml_keep {S : Scr} {d : Nat} {f : FF} {g : GG} {P : Option Value → Nat → FF → GG → Prop} (G : GOm g) {a : Nat} (ha : a < 2) (hF : f 137 23 = nI a) (hk : ∀ f1 : FF, (∀ x, x ≠ 152 → f1 x = f x) → (∀ q, q < 39 → f1 152 (39 * a + q) = f 148 (q)) → (∀ q, (q < 39 * a ∨ 39 * a + 39 ≤ q) → f1 152 q = f 152 q) → Wp S d 184 45 [some (.ref 137), some (.int (nI 39))] [] 153 f1 g P) : ∀ (t k : Nat) (f1 : FF), t + k = 39 → (∀ x, x ≠ 152 → f1 x = f x) → (∀ q, q < k → f1 152 (39 * a + q) = f 148 (q)) → (∀ q, (q < 39 * a ∨ 39 * a + 39 ≤ q) → f1 152 q = f 152 q) → Wp S d 184 13 [some (.ref 137), some (.int (nI k))] [] 153 f1 g P := by
  intro t
  induction t with
  | zero =>
    intro k f1 e0 e1 e2 e3
    obtain rfl : k = 39 := by omega
    refine w_iload_n k184_13 rfl ?_
    refine w_bipush k184_14 ?_
    refine w_icmp_ge k184_16 (fun h16 => ?_) (fun h16 => absurd (nI_le (a := 39) (by omega) (by omega)) h16)
    exact hk f1 e1 (fun q hq => e2 q hq) e3
  | succ t ih =>
    intro k f1 e0 e1 e2 e3
    refine w_iload_n k184_13 rfl ?_
    refine w_bipush k184_14 ?_
    refine w_icmp_ge k184_16 (fun h16 => absurd h16 (nI_ge (b := 39) (by omega) (by omega))) (fun h16 => ?_)
    refine w_aload_n k184_19 rfl rfl ?_
    refine w_getr k184_20 (k := 24) kd137 (by decide) (r137_24 G) ?_
    refine w_bipush k184_23 ?_
    refine w_aload_n k184_25 rfl rfl ?_
    refine w_geti k184_26 (k := 23) kd137 (by decide) ?_
    rw [e1 137 (by omega), hF]
    refine w_imul k184_29 ?_
    refine w_top (nI (39 * a)) (pk_mul 39 a) ?_
    refine w_iload_n k184_30 rfl ?_
    refine w_iadd k184_31 ?_
    refine w_top (nI (39 * a + k)) (nI_add _ _) ?_
    refine w_aload_n k184_32 rfl rfl ?_
    refine w_getr k184_33 (k := 16) kd137 (by decide) (r137_16 G) ?_
    refine w_iload_n k184_36 rfl ?_
    refine w_iald k184_37 kd148 (nI_pos (by omega)) (nI_clamp (by omega)) (by omega) ?_
    refine w_iast k184_38 kd152 (nI_pos (by omega)) (nI_clamp (by omega)) (by omega) ?_
    refine w_iinc k184_39 rfl (ls' := [_, _]) rfl ?_
    refine w_goto k184_42 ?_
    rw [nI_1]
    refine ih (k + 1) _ (by omega) (fun x hx => by funext y; rw [fup_no hx, e1 x hx]) (fun q hq => ?_) (fun q hq => by rw [fup_ne (by omega)]; exact e3 q hq)
    by_cases hqk : q = k
    · subst hqk
      rw [fup_self, e1 148 (by omega)]
    · rw [fup_ne (by omega)]
      exact e2 q (by omega)
set_option maxHeartbeats 1000000 in
theorem ml_back {S : Scr} {d : Nat} {f : FF} {g : GG} {P : Option Value → Nat → FF → GG → Prop} (G : GOm g) {a : Nat} (ha : a < 2) (hF : f 137 23 = nI a) (hk : ∀ f1 : FF, (∀ x, x ≠ 148 → f1 x = f x) → (∀ q, q < 39 → f1 148 (q) = f 152 (39 * a + q)) → (∀ q, (q < 0 ∨ 39 ≤ q) → f1 148 q = f 148 q) → Wp S d 186 54 [some (.ref 137), some (.int (nI 39))] [] 153 f1 g P) : ∀ (t k : Nat) (f1 : FF), t + k = 39 → (∀ x, x ≠ 148 → f1 x = f x) → (∀ q, q < k → f1 148 (q) = f 152 (39 * a + q)) → (∀ q, (q < 0 ∨ 39 ≤ q) → f1 148 q = f 148 q) → Wp S d 186 22 [some (.ref 137), some (.int (nI k))] [] 153 f1 g P := by
  intro t
  induction t with
  | zero =>
    intro k f1 e0 e1 e2 e3
    obtain rfl : k = 39 := by omega
    refine w_iload_n k186_22 rfl ?_
    refine w_bipush k186_23 ?_
    refine w_icmp_ge k186_25 (fun h25 => ?_) (fun h25 => absurd (nI_le (a := 39) (by omega) (by omega)) h25)
    exact hk f1 e1 (fun q hq => e2 q hq) e3
  | succ t ih =>
    intro k f1 e0 e1 e2 e3
    refine w_iload_n k186_22 rfl ?_
    refine w_bipush k186_23 ?_
    refine w_icmp_ge k186_25 (fun h25 => absurd h25 (nI_ge (b := 39) (by omega) (by omega))) (fun h25 => ?_)
    refine w_aload_n k186_28 rfl rfl ?_
    refine w_getr k186_29 (k := 16) kd137 (by decide) (r137_16 G) ?_
    refine w_iload_n k186_32 rfl ?_
    refine w_aload_n k186_33 rfl rfl ?_
    refine w_getr k186_34 (k := 24) kd137 (by decide) (r137_24 G) ?_
    refine w_bipush k186_37 ?_
    refine w_aload_n k186_39 rfl rfl ?_
    refine w_geti k186_40 (k := 23) kd137 (by decide) ?_
    rw [e1 137 (by omega), hF]
    refine w_imul k186_43 ?_
    refine w_top (nI (39 * a)) (pk_mul 39 a) ?_
    refine w_iload_n k186_44 rfl ?_
    refine w_iadd k186_45 ?_
    refine w_top (nI (39 * a + k)) (nI_add _ _) ?_
    refine w_iald k186_46 kd152 (nI_pos (by omega)) (nI_clamp (by omega)) (by omega) ?_
    refine w_iast k186_47 kd148 (nI_pos (by omega)) (nI_clamp (by omega)) (by omega) ?_
    refine w_iinc k186_48 rfl (ls' := [_, _]) rfl ?_
    refine w_goto k186_51 ?_
    rw [nI_1]
    refine ih (k + 1) _ (by omega) (fun x hx => by funext y; rw [fup_no hx, e1 x hx]) (fun q hq => ?_) (fun q hq => by rw [fup_ne (by omega)]; exact e3 q hq)
    by_cases hqk : q = k
    · subst hqk
      rw [fup_self, e1 152 (by omega)]
    · rw [fup_ne (by omega)]
      exact e2 q (by omega)
theorem MUn.put {f f' : FF} {a uN : Nat} {uL : Nat → Nat → Nat → Nat} {M : Nat → Nat → Nat} (ha : a < 8) (h8 : uN ≤ 8) (hU : ∀ i, i < uN → MR1 (fun k => f 150 (39 * ((a + i) % 8) + k)) (uL i)) (h6 : ∀ i, i < uN → uL i 0 2 ≤ 6) (hA : MR1 (f 148) M) (hM6 : M 0 2 ≤ 6) (e1 : f' 137 19 = nI (((a + uN) % 8 + 1) % 8)) (e2 : f' 137 18 = nI (if uN < 8 then uN + 1 else 8)) (e3 : ∀ q, q < 39 → f' 150 (39 * ((a + uN) % 8) + q) = f 148 q) (e4 : ∀ q, (q < 39 * ((a + uN) % 8) ∨ 39 * ((a + uN) % 8) + 39 ≤ q) → f' 150 q = f 150 q) : MUn f' (if uN < 8 then uN + 1 else 8) (putL 8 uN uL M) := by
  have key : ∀ i, i < uN → (a + i) % 8 ≠ (a + uN) % 8 → MR1 (fun k => f' 150 (39 * ((a + i) % 8) + k)) (uL i) := fun i hi hne => (hU i hi).eq (h6 i hi) (fun k hk => e4 _ (by omega))
  have keyM : MR1 (fun k => f' 150 (39 * ((a + uN) % 8) + k)) M := hA.eq hM6 (fun k hk => e3 k hk)
  by_cases hz : uN < 8
  · rw [if_pos hz] at e2 ⊢
    refine ⟨a, ha, by rw [e1]; congr 1; omega, e2, by omega, fun i hi => ?_⟩
    unfold putL
    rw [if_pos hz]
    show MR1 _ (if i = uN then M else uL i)
    by_cases hu : i = uN
    · rw [if_pos hu, hu]
      exact keyM
    · rw [if_neg hu]
      exact key i (by omega) (by omega)
  · rw [if_neg hz] at e2 ⊢
    have hu8 : uN = 8 := by omega
    subst hu8
    refine ⟨(a + 1) % 8, by omega, by rw [e1]; congr 1; omega, e2, by omega, fun i hi => ?_⟩
    unfold putL
    rw [if_neg hz]
    show MR1 _ (if i + 1 < 8 then uL (i + 1) else M)
    by_cases hu : i + 1 < 8
    · rw [if_pos hu]
      have h := key (i + 1) (by omega) (by omega)
      have e : ((a + 1) % 8 + i) % 8 = (a + (i + 1)) % 8 := by omega
      rw [e]
      exact h
    · rw [if_neg hu]
      have e : ((a + 1) % 8 + i) % 8 = (a + 8) % 8 := by omega
      rw [e]
      exact keyM
/-- the model's parts but now and what is undone, where nothing else has changed -/
theorem MRl.un {f f' : FF} {g : GG} {tx : Nat → Nat} {tl : Nat} {V : Va} {M : Nat → Nat → Nat} {uN : Nat} {uL : Nat → Nat → Nat → Nat} {kN : Nat} {kL : Nat → Nat → Nat → Nat} {sn : Nat} {se : Nat → Nat → Nat} (h : MRl f g tx tl V M uN uL kN kL sn se) {M2 : Nat → Nat → Nat} {uN2 : Nat} {uL2 : Nat → Nat → Nat → Nat} (ho : ∀ x, x ≠ 150 → x ≠ 148 → x ≠ 137 → f' x = f x) (h7 : ∀ k, k ≠ 18 → k ≠ 19 → f' 137 k = f 137 k) (hA : MR1 (f' 148) M2) (hU : MUn f' uN2 uL2) : MRl f' g tx tl V M2 uN2 uL2 kN kL sn se := by
  obtain ⟨g0, g1, g2, g3, g4, g5, g6⟩ := h
  exact ⟨g0, ⟨by rw [h7 0 (by omega) (by omega)]; exact g1.1, g1.2.1, fun i hi => by rw [ho 138 (by omega) (by omega) (by omega)]; exact g1.2.2 i hi⟩, g2.off (h7 12 (by omega) (by omega)) (ho _ (by omega) (by omega) (by omega)) (ho _ (by omega) (by omega) (by omega)) (ho _ (by omega) (by omega) (by omega)), hA, hU, ⟨by rw [h7 23 (by omega) (by omega)]; exact g5.1, g5.2.1, fun i hi => by rw [ho 152 (by omega) (by omega) (by omega)]; exact g5.2.2 i hi⟩, ⟨by rw [h7 21 (by omega) (by omega)]; exact g6.1, g6.2.1, fun i hi => by rw [ho 151 (by omega) (by omega) (by omega)]; exact g6.2.2 i hi⟩⟩
theorem MRl.mo {f f' : FF} {g : GG} {tx : Nat → Nat} {tl : Nat} {V : Va} {M : Nat → Nat → Nat} {uN : Nat} {uL : Nat → Nat → Nat → Nat} {kN : Nat} {kL : Nat → Nat → Nat → Nat} {sn : Nat} {se : Nat → Nat → Nat} (h : MRl f g tx tl V M uN uL kN kL sn se) {M2 : Nat → Nat → Nat} (ho : ∀ x, x ≠ 148 → f' x = f x) (hA : MR1 (f' 148) M2) : MRl f' g tx tl V M2 uN uL kN kL sn se := by
  obtain ⟨a, u1, u2, u3, u4, u5⟩ := h.2.2.2.2.1
  exact h.un (fun x _ hx _ => ho x hx) (fun k _ _ => by rw [ho 137 (by omega)]) hA ⟨a, u1, by rw [ho 137 (by omega)]; exact u2, by rw [ho 137 (by omega)]; exact u3, u4, fun i hi => by rw [ho 150 (by omega)]; exact u5 i hi⟩
set_option maxHeartbeats 1000000 in
theorem mp_remember {S : Scr} {d : Nat} {f : FF} {g : GG} {B : Nat} {tx : Nat → Nat} {tl : Nat} {V : Va} {M : Nat → Nat → Nat} {uN : Nat} {uL : Nat → Nat → Nat → Nat} {kN : Nat} {kL : Nat → Nat → Nat → Nat} {sn : Nat} {se : Nat → Nat → Nat} (G : GOm g) (hR : MRl f g tx tl V M uN uL kN kL sn se) (hW : StW B tx tl V M uN uL kN kL sn se) (h1 : 1 ≤ V.1) : Wp S d 107 0 [some (.ref 137), none] [] 153 f g (MdQv f g tx tl V M (if uN < 8 then uN + 1 else 8) (putL 8 uN uL M) kN kL sn se) := by
  obtain ⟨g0, hL, hVa, hA, hU, hK, hS⟩ := id hR
  have h200 := hL.2.1
  have hV := hW.2.1
  have hM := hW.2.2.1.1
  have h9 := hV.1
  have hm6 := hM.1
  have hmt := hM.2.1
  have hmi := hM.2.2.1
  obtain ⟨a, u1, u2, u3, u4, u5⟩ := hU
  refine w_iconst k107_0 ?_
  refine w_istore_n k107_1 (ls' := [_, _]) rfl ?_
  refine ml_remember (a := (a + uN) % 8) G (by omega) u2 (fun f1 q1 q2 q3 => ?_) 39 0 f rfl (fun _ _ => rfl) (fun q hq => absurd hq (Nat.not_lt_zero q)) (fun _ _ => rfl)
  refine w_aload_n k107_34 rfl rfl ?_
  refine w_aload_n k107_35 rfl rfl ?_
  refine w_geti k107_36 (k := 19) kd137 (by decide) ?_
  rw [q1 137 (by omega), u2]
  refine w_iconst k107_39 ?_
  refine w_iadd k107_40 ?_
  refine w_top (nI ((a + uN) % 8 + 1)) (nI_1 _) ?_
  refine w_bipush k107_41 ?_
  refine w_irem k107_43 (by decide) ?_
  refine w_top (nI (((a + uN) % 8 + 1) % 8)) (pk_rem (d := 8) (by omega) (by omega) (by omega)) ?_
  refine w_puti k107_44 (k := 19) kd137 (by decide) ?_
  refine w_aload_n k107_47 rfl rfl ?_
  refine w_dup k107_48 rfl ?_
  refine w_geti k107_49 (k := 18) kd137 (by decide) ?_
  rw [fup_ne (by omega), q1 137 (by omega), u3]
  refine w_aload_n k107_52 rfl rfl ?_
  refine w_geti k107_53 (k := 18) kd137 (by decide) ?_
  rw [fup_ne (by omega), q1 137 (by omega), u3]
  refine w_bipush k107_56 ?_
  refine w_icmp_ge k107_58 (fun h58 => ?_) (fun h58 => ?_)
  ·
    have hz : ¬ uN < 8 := Nat.not_lt.mpr ((nI_leI (a := 8) (by omega) (by omega)).mp h58)
    refine w_iconst k107_65 ?_
    refine w_iadd k107_66 ?_
    refine w_top (nI (if uN < 8 then uN + 1 else 8)) (by first | (rw [if_pos hz]; exact nI_1 _) | (rw [if_neg hz, show uN = 8 by omega]; rfl)) ?_
    refine w_puti k107_67 (k := 18) kd137 (by decide) ?_
    refine w_vret k107_70 mt107 rfl ?_
    refine ⟨rfl, rfl, rfl, fun x hx => by funext y; rw [fup_no (by omega), fup_no (by omega), q1 x (by omega)], ?_⟩
    refine hR.un (fun x b1 b2 b3 => by funext y; rw [fup_no b3, fup_no b3, q1 x b1]) (fun k b1 b2 => by rw [fup_ne b1, fup_ne b2, q1 137 (by omega)]) ?_ ?_
    · rw [show fup (fup f1 137 19 (nI (((a + uN) % 8 + 1) % 8))) 137 18 (nI (if uN < 8 then uN + 1 else 8)) 148 = f 148 from by funext y; rw [fup_no (by omega), fup_no (by omega), q1 148 (by omega)]]
      exact hA
    · refine MUn.put (f := f) u1 u4 u5 (fun i hi => (hW.2.2.2.1 i hi).1.1) hA hm6 (by rw [fup_ne (by omega), fup_self]) fup_self (fun q hq => ?_) (fun q hq => ?_)
      · rw [fup_no (by omega), fup_no (by omega)]
        exact q2 q hq
      · rw [fup_no (by omega), fup_no (by omega)]
        exact q3 q hq
  ·
    have hz : uN < 8 := Nat.not_le.mp fun hh => h58 ((nI_leI (a := 8) (by omega) (by omega)).mpr hh)
    refine w_iconst k107_61 ?_
    refine w_goto k107_62 ?_
    refine w_iadd k107_66 ?_
    refine w_top (nI (if uN < 8 then uN + 1 else 8)) (by first | (rw [if_pos hz]; exact nI_1 _) | (rw [if_neg hz, show uN = 8 by omega]; rfl)) ?_
    refine w_puti k107_67 (k := 18) kd137 (by decide) ?_
    refine w_vret k107_70 mt107 rfl ?_
    refine ⟨rfl, rfl, rfl, fun x hx => by funext y; rw [fup_no (by omega), fup_no (by omega), q1 x (by omega)], ?_⟩
    refine hR.un (fun x b1 b2 b3 => by funext y; rw [fup_no b3, fup_no b3, q1 x b1]) (fun k b1 b2 => by rw [fup_ne b1, fup_ne b2, q1 137 (by omega)]) ?_ ?_
    · rw [show fup (fup f1 137 19 (nI (((a + uN) % 8 + 1) % 8))) 137 18 (nI (if uN < 8 then uN + 1 else 8)) 148 = f 148 from by funext y; rw [fup_no (by omega), fup_no (by omega), q1 148 (by omega)]]
      exact hA
    · refine MUn.put (f := f) u1 u4 u5 (fun i hi => (hW.2.2.2.1 i hi).1.1) hA hm6 (by rw [fup_ne (by omega), fup_self]) fup_self (fun q hq => ?_) (fun q hq => ?_)
      · rw [fup_no (by omega), fup_no (by omega)]
        exact q2 q hq
      · rw [fup_no (by omega), fup_no (by omega)]
        exact q3 q hq
set_option maxHeartbeats 1000000 in
theorem mp_undo0 {S : Scr} {d : Nat} {f : FF} {g : GG} {B : Nat} {tx : Nat → Nat} {tl : Nat} {V : Va} {M : Nat → Nat → Nat} {uN : Nat} {uL : Nat → Nat → Nat → Nat} {kN : Nat} {kL : Nat → Nat → Nat → Nat} {sn : Nat} {se : Nat → Nat → Nat} (G : GOm g) (hR : MRl f g tx tl V M uN uL kN kL sn se) (hW : StW B tx tl V M uN uL kN kL sn se) (h1 : 1 ≤ V.1) (hu : uN = 0) : Wp S d 124 0 [some (.ref 137), none] [] 153 f g (MdQ f g (-2) tx tl V M uN uL kN kL sn se) := by
  obtain ⟨g0, hL, hVa, hA, hU, hK, hS⟩ := id hR
  have h200 := hL.2.1
  have hV := hW.2.1
  have hM := hW.2.2.1.1
  have h9 := hV.1
  have hm6 := hM.1
  have hmt := hM.2.1
  have hmi := hM.2.2.1
  obtain ⟨a, u1, u2, u3, u4, u5⟩ := hU
  have u6 : f 137 18 = nI 0 := by rw [u3, hu]
  refine w_aload_n k124_0 rfl rfl ?_
  refine w_geti k124_1 (k := 18) kd137 (by decide) ?_
  rw [u6]
  refine w_if_ne k124_4 (fun h4 => absurd (rfl) h4) (fun h4 => ?_)
  refine w_bipush k124_7 ?_
  refine w_iret k124_9 mt124 (.int) rfl (rfl) ?_
  exact MdQ.same hR
set_option maxHeartbeats 1000000 in
theorem mp_undo {S : Scr} {d : Nat} {f : FF} {g : GG} {B : Nat} {tx : Nat → Nat} {tl : Nat} {V : Va} {M : Nat → Nat → Nat} {uN : Nat} {uL : Nat → Nat → Nat → Nat} {kN : Nat} {kL : Nat → Nat → Nat → Nat} {sn : Nat} {se : Nat → Nat → Nat} (G : GOm g) (hR : MRl f g tx tl V M uN uL kN kL sn se) (hW : StW B tx tl V M uN uL kN kL sn se) (h1 : 1 ≤ V.1) {u : Nat} (hu : uN = u + 1) : Wp S d 124 0 [some (.ref 137), none] [] 153 f g (MdQ f g (nI u) tx tl V (uL u) u uL kN kL sn se) := by
  obtain ⟨g0, hL, hVa, hA, hU, hK, hS⟩ := id hR
  have h200 := hL.2.1
  have hV := hW.2.1
  have hM := hW.2.2.1.1
  have h9 := hV.1
  have hm6 := hM.1
  have hmt := hM.2.1
  have hmi := hM.2.2.1
  obtain ⟨a, u1, u2, u3, u4, u5⟩ := hU
  subst hu
  refine w_aload_n k124_0 rfl rfl ?_
  refine w_geti k124_1 (k := 18) kd137 (by decide) ?_
  rw [u3]
  refine w_if_ne k124_4 (fun h4 => ?_) (fun h4 => absurd h4 (nI_ne0 (by omega) (by omega)))
  refine w_aload_n k124_10 rfl rfl ?_
  refine w_aload_n k124_11 rfl rfl ?_
  refine w_geti k124_12 (k := 19) kd137 (by decide) ?_
  rw [u2]
  refine w_bipush k124_15 ?_
  refine w_iadd k124_17 ?_
  refine w_top (nI ((a + (u + 1)) % 8 + 8)) (nI_add _ 8) ?_
  refine w_iconst k124_18 ?_
  refine w_isub k124_19 ?_
  refine w_top (nI ((a + (u + 1)) % 8 + 7)) (pk_sub (a := (a + (u + 1)) % 8 + 8) (b := 1) (by omega)) ?_
  refine w_bipush k124_20 ?_
  refine w_irem k124_22 (by decide) ?_
  refine w_top (nI ((a + u) % 8)) ((pk_rem (a := (a + (u + 1)) % 8 + 7) (d := 8) (by omega) (by omega) (by omega)).trans (congrArg nI (by omega))) ?_
  refine w_puti k124_23 (k := 19) kd137 (by decide) ?_
  refine w_aload_n k124_26 rfl rfl ?_
  refine w_dup k124_27 rfl ?_
  refine w_geti k124_28 (k := 18) kd137 (by decide) ?_
  rw [fup_ne (by omega), u3]
  refine w_iconst k124_31 ?_
  refine w_isub k124_32 ?_
  refine w_top (nI u) (pk_sub (a := u + 1) (b := 1) (by omega)) ?_
  refine w_puti k124_33 (k := 18) kd137 (by decide) ?_
  refine w_iconst k124_36 ?_
  refine w_istore_n k124_37 (ls' := [_, _]) rfl ?_
  refine ml_undo (a := (a + u) % 8) G (by omega) (by rw [fup_ne (by omega), fup_self]) (fun f1 q1 q2 q3 => ?_) 39 0 _ rfl (fun _ _ => rfl) (fun q hq => absurd hq (Nat.not_lt_zero q)) (fun _ _ => rfl)
  refine w_aload_n k124_70 rfl rfl ?_
  refine w_geti k124_71 (k := 18) kd137 (by decide) ?_
  rw [q1 137 (by omega), fup_self]
  refine w_iret k124_74 mt124 (.int) rfl (rfl) ?_
  have hX : ∀ x, x ≠ 148 → x ≠ 137 → f1 x = f x := fun x b1 b2 => by rw [q1 x b1]; funext y; rw [fup_no b2, fup_no b2]
  refine ⟨rfl, rfl, rfl, fun x hx => hX x (by omega) (by omega), ?_⟩
  refine hR.un (fun x b1 b2 b3 => hX x b2 b3) (fun k b1 b2 => by rw [q1 137 (by omega), fup_ne b1, fup_ne b2]) ?_ ⟨a, u1, by rw [q1 137 (by omega), fup_ne (by omega), fup_self], by rw [q1 137 (by omega), fup_self], by omega, fun i hi => ?_⟩
  · refine (u5 u (by omega)).eq (hW.2.2.2.1 u (by omega)).1.1 (fun k hk => ?_)
    rw [q2 k hk, fup_no (by omega), fup_no (by omega)]
  · rw [hX 150 (by omega) (by omega)]
    exact u5 i (by omega)
set_option maxHeartbeats 1000000 in
theorem mp_keep {S : Scr} {d : Nat} {f : FF} {g : GG} {B : Nat} {tx : Nat → Nat} {tl : Nat} {V : Va} {M : Nat → Nat → Nat} {uN : Nat} {uL : Nat → Nat → Nat → Nat} {kN : Nat} {kL : Nat → Nat → Nat → Nat} {sn : Nat} {se : Nat → Nat → Nat} (G : GOm g) (hR : MRl f g tx tl V M uN uL kN kL sn se) (hW : StW B tx tl V M uN uL kN kL sn se) (h1 : 1 ≤ V.1) (hk : kN < 2) : Wp S d 184 0 [some (.ref 137), none] [] 153 f g (MdQ f g (nI (kN + 1)) tx tl V M uN uL (kN + 1) (fun i => if i = kN then M else kL i) sn se) := by
  obtain ⟨g0, hL, hVa, hA, hU, hK, hS⟩ := id hR
  have h200 := hL.2.1
  have hV := hW.2.1
  have hM := hW.2.2.1.1
  have h9 := hV.1
  have hm6 := hM.1
  have hmt := hM.2.1
  have hmi := hM.2.2.1
  refine w_aload_n k184_0 rfl rfl ?_
  refine w_geti k184_1 (k := 23) kd137 (by decide) ?_
  rw [hK.1]
  refine w_iconst k184_4 ?_
  refine w_icmp_ne k184_5 (fun h5 => ?_) (fun h5 => absurd h5 (fun hh => absurd ((nI_eq (b := 2) (by omega) (by omega)).mp hh) (by omega)))
  refine w_iconst k184_11 ?_
  refine w_istore_n k184_12 (ls' := [_, _]) rfl ?_
  refine ml_keep (a := kN) G (by omega) hK.1 (fun f1 q1 q2 q3 => ?_) 39 0 f rfl (fun _ _ => rfl) (fun q hq => absurd hq (Nat.not_lt_zero q)) (fun _ _ => rfl)
  refine w_aload_n k184_45 rfl rfl ?_
  refine w_dup k184_46 rfl ?_
  refine w_geti k184_47 (k := 23) kd137 (by decide) ?_
  rw [q1 137 (by omega), hK.1]
  refine w_iconst k184_50 ?_
  refine w_iadd k184_51 ?_
  refine w_top (nI (kN + 1)) (nI_1 _) ?_
  refine w_puti k184_52 (k := 23) kd137 (by decide) ?_
  refine w_aload_n k184_55 rfl rfl ?_
  refine w_geti k184_56 (k := 23) kd137 (by decide) ?_
  rw [fup_self]
  refine w_iret k184_59 mt184 (.int) rfl (rfl) ?_
  have hX : ∀ x, x ≠ 152 → x ≠ 137 → fup f1 137 23 (nI (kN + 1)) x = f x := fun x b1 b2 => by funext y; rw [fup_no b2, q1 x b1]
  have h7 : ∀ k, k ≠ 23 → fup f1 137 23 (nI (kN + 1)) 137 k = f 137 k := fun k b1 => by rw [fup_ne b1, q1 137 (by omega)]
  have h152 : fup f1 137 23 (nI (kN + 1)) 152 = f1 152 := by funext y; exact fup_no (by omega)
  obtain ⟨a, u1, u2, u3, u4, u5⟩ := hU
  refine ⟨rfl, rfl, rfl, fun x hx => hX x (by omega) (by omega), g0, ⟨by rw [h7 0 (by omega)]; exact hL.1, hL.2.1, fun i hi => by rw [hX 138 (by omega) (by omega)]; exact hL.2.2 i hi⟩, hVa.off (h7 12 (by omega)) (hX _ (by omega) (by omega)) (hX _ (by omega) (by omega)) (hX _ (by omega) (by omega)), by rw [hX 148 (by omega) (by omega)]; exact hA, ⟨a, u1, by rw [h7 19 (by omega)]; exact u2, by rw [h7 18 (by omega)]; exact u3, u4, fun i hi => by rw [hX 150 (by omega) (by omega)]; exact u5 i hi⟩, ⟨fup_self, by omega, fun i hi => ?_⟩, ⟨by rw [h7 21 (by omega)]; exact hS.1, hS.2.1, fun i hi => by rw [hX 151 (by omega) (by omega)]; exact hS.2.2 i hi⟩⟩
  rw [h152]
  show MR1 _ (if i = kN then M else kL i)
  by_cases hu : i = kN
  · rw [if_pos hu, hu]
    exact hA.eq hm6 (fun k hk => q2 k hk)
  · rw [if_neg hu]
    exact (hK.2.2 i (by omega)).eq (hW.2.2.2.2.1 i (by omega)).1.1 (fun k hk => q3 _ (by omega))
set_option maxHeartbeats 1000000 in
theorem mp_keepF {S : Scr} {d : Nat} {f : FF} {g : GG} {B : Nat} {tx : Nat → Nat} {tl : Nat} {V : Va} {M : Nat → Nat → Nat} {uN : Nat} {uL : Nat → Nat → Nat → Nat} {kN : Nat} {kL : Nat → Nat → Nat → Nat} {sn : Nat} {se : Nat → Nat → Nat} (G : GOm g) (hR : MRl f g tx tl V M uN uL kN kL sn se) (hW : StW B tx tl V M uN uL kN kL sn se) (h1 : 1 ≤ V.1) (hk : ¬ kN < 2) : Wp S d 184 0 [some (.ref 137), none] [] 153 f g (MdQ f g (-3) tx tl V M uN uL kN kL sn se) := by
  obtain ⟨g0, hL, hVa, hA, hU, hK, hS⟩ := id hR
  have h200 := hL.2.1
  have hV := hW.2.1
  have hM := hW.2.2.1.1
  have h9 := hV.1
  have hm6 := hM.1
  have hmt := hM.2.1
  have hmi := hM.2.2.1
  have hk2 := hK.2.1
  have u6 : f 137 23 = nI 2 := by rw [hK.1, show kN = 2 by omega]
  refine w_aload_n k184_0 rfl rfl ?_
  refine w_geti k184_1 (k := 23) kd137 (by decide) ?_
  rw [u6]
  refine w_iconst k184_4 ?_
  refine w_icmp_ne k184_5 (fun h5 => absurd (rfl) h5) (fun h5 => ?_)
  refine w_bipush k184_8 ?_
  refine w_iret k184_10 mt184 (.int) rfl (rfl) ?_
  exact MdQ.same hR
set_option maxHeartbeats 1000000 in
theorem mp_back0 {S : Scr} {d : Nat} {f : FF} {g : GG} {B : Nat} {tx : Nat → Nat} {tl : Nat} {V : Va} {M : Nat → Nat → Nat} {uN : Nat} {uL : Nat → Nat → Nat → Nat} {kN : Nat} {kL : Nat → Nat → Nat → Nat} {sn : Nat} {se : Nat → Nat → Nat} (G : GOm g) (hR : MRl f g tx tl V M uN uL kN kL sn se) (hW : StW B tx tl V M uN uL kN kL sn se) (h1 : 1 ≤ V.1) (hk : kN = 0) : Wp S d 186 0 [some (.ref 137), none] [] 153 f g (MdQ f g (-2) tx tl V M uN uL kN kL sn se) := by
  obtain ⟨g0, hL, hVa, hA, hU, hK, hS⟩ := id hR
  have h200 := hL.2.1
  have hV := hW.2.1
  have hM := hW.2.2.1.1
  have h9 := hV.1
  have hm6 := hM.1
  have hmt := hM.2.1
  have hmi := hM.2.2.1
  have u6 : f 137 23 = nI 0 := by rw [hK.1, hk]
  refine w_aload_n k186_0 rfl rfl ?_
  refine w_geti k186_1 (k := 23) kd137 (by decide) ?_
  rw [u6]
  refine w_if_ne k186_4 (fun h4 => absurd (rfl) h4) (fun h4 => ?_)
  refine w_bipush k186_7 ?_
  refine w_iret k186_9 mt186 (.int) rfl (rfl) ?_
  exact MdQ.same hR
set_option maxHeartbeats 1000000 in
theorem mp_back {S : Scr} {d : Nat} {f : FF} {g : GG} {B : Nat} {tx : Nat → Nat} {tl : Nat} {V : Va} {M : Nat → Nat → Nat} {uN : Nat} {uL : Nat → Nat → Nat → Nat} {kN : Nat} {kL : Nat → Nat → Nat → Nat} {sn : Nat} {se : Nat → Nat → Nat} (G : GOm g) (hR : MRl f g tx tl V M uN uL kN kL sn se) (hW : StW B tx tl V M uN uL kN kL sn se) (h1 : 1 ≤ V.1) {k : Nat} (hk : kN = k + 1) : Wp S d 186 0 [some (.ref 137), none] [] 153 f g (MdQ f g (nI k) tx tl V (kL k) 0 uL k kL sn se) := by
  obtain ⟨g0, hL, hVa, hA, hU, hK, hS⟩ := id hR
  have h200 := hL.2.1
  have hV := hW.2.1
  have hM := hW.2.2.1.1
  have h9 := hV.1
  have hm6 := hM.1
  have hmt := hM.2.1
  have hmi := hM.2.2.1
  subst hk
  have hk2 := hK.2.1
  refine w_aload_n k186_0 rfl rfl ?_
  refine w_geti k186_1 (k := 23) kd137 (by decide) ?_
  rw [hK.1]
  refine w_if_ne k186_4 (fun h4 => ?_) (fun h4 => absurd h4 (nI_ne0 (by omega) (by omega)))
  refine w_aload_n k186_10 rfl rfl ?_
  refine w_dup k186_11 rfl ?_
  refine w_geti k186_12 (k := 23) kd137 (by decide) ?_
  rw [hK.1]
  refine w_iconst k186_15 ?_
  refine w_isub k186_16 ?_
  refine w_top (nI k) (pk_sub (a := k + 1) (b := 1) (by omega)) ?_
  refine w_puti k186_17 (k := 23) kd137 (by decide) ?_
  refine w_iconst k186_20 ?_
  refine w_istore_n k186_21 (ls' := [_, _]) rfl ?_
  refine ml_back (a := k) G (by omega) fup_self (fun f1 q1 q2 q3 => ?_) 39 0 _ rfl (fun _ _ => rfl) (fun q hq => absurd hq (Nat.not_lt_zero q)) (fun _ _ => rfl)
  refine w_aload_n k186_54 rfl rfl ?_
  refine w_iconst k186_55 ?_
  refine w_puti k186_56 (k := 18) kd137 (by decide) ?_
  refine w_aload_n k186_59 rfl rfl ?_
  refine w_geti k186_60 (k := 23) kd137 (by decide) ?_
  rw [fup_ne (by omega), q1 137 (by omega), fup_self]
  refine w_iret k186_63 mt186 (.int) rfl (rfl) ?_
  have hX : ∀ x, x ≠ 148 → x ≠ 137 → fup f1 137 18 0 x = f x := fun x b1 b2 => by funext y; rw [fup_no b2, q1 x b1, fup_no b2]
  have h7 : ∀ q, q ≠ 23 → q ≠ 18 → fup f1 137 18 0 137 q = f 137 q := fun q b1 b2 => by rw [fup_ne b2, q1 137 (by omega), fup_ne b1]
  have h148 : fup f1 137 18 0 148 = f1 148 := by funext y; exact fup_no (by omega)
  obtain ⟨a, u1, u2, u3, u4, u5⟩ := hU
  refine ⟨rfl, rfl, rfl, fun x hx => hX x (by omega) (by omega), g0, ⟨by rw [h7 0 (by omega) (by omega)]; exact hL.1, hL.2.1, fun i hi => by rw [hX 138 (by omega) (by omega)]; exact hL.2.2 i hi⟩, hVa.off (h7 12 (by omega) (by omega)) (hX _ (by omega) (by omega)) (hX _ (by omega) (by omega)) (hX _ (by omega) (by omega)), ?_, ⟨(a + uN) % 8, by omega, by rw [h7 19 (by omega) (by omega), u2]; congr 1; omega, fup_self, by omega, fun i hi => absurd hi (Nat.not_lt_zero i)⟩, ⟨by rw [fup_ne (by omega), q1 137 (by omega), fup_self], by omega, fun i hi => by rw [hX 152 (by omega) (by omega)]; exact hK.2.2 i (by omega)⟩, ⟨by rw [h7 21 (by omega) (by omega)]; exact hS.1, hS.2.1, fun i hi => by rw [hX 151 (by omega) (by omega)]; exact hS.2.2 i hi⟩⟩
  rw [h148]
  exact (hK.2.2 k (by omega)).eq (hW.2.2.2.2.1 k (by omega)).1.1 (fun q hq => by rw [q2 q hq, fup_no (by omega)])
