/-! SPECS, 35: the model, out, bring, meet, evening -/
theorem MRl.t {f f' : FF} {g : GG} {tx : Nat → Nat} {tl : Nat} {V : Va} {M : Nat → Nat → Nat} {uN : Nat} {uL : Nat → Nat → Nat → Nat} {kN : Nat} {kL : Nat → Nat → Nat → Nat} {sn : Nat} {se : Nat → Nat → Nat} (h : MRl f g tx tl V M uN uL kN kL sn se) (ho : ∀ x, x ≠ 149 → f' x = f x) : MRl f' g tx tl V M uN uL kN kL sn se := by
  obtain ⟨h1, h2, h3, h4, ⟨a, h5, h6, h7, h8, h9⟩, h10, h11⟩ := h
  refine ⟨h1, ⟨?_, h2.2.1, ?_⟩, h3.off ?_ (ho _ (by omega)) (ho _ (by omega)) (ho _ (by omega)), ?_, ⟨a, h5, ?_, ?_, h8, ?_⟩, ⟨?_, h10.2.1, ?_⟩, ⟨?_, h11.2.1, ?_⟩⟩
  · rw [ho 137 (by omega)]; exact h2.1
  · intro i hi; rw [ho 138 (by omega)]; exact h2.2.2 i hi
  · rw [ho 137 (by omega)]
  · rw [ho 148 (by omega)]; exact h4
  · rw [ho 137 (by omega)]; exact h6
  · rw [ho 137 (by omega)]; exact h7
  · intro i hi; rw [ho 150 (by omega)]; exact h9 i hi
  · rw [ho 137 (by omega)]; exact h10.1
  · intro i hi; rw [ho 152 (by omega)]; exact h10.2.2 i hi
  · rw [ho 137 (by omega)]; exact h11.1
  · intro i hi; rw [ho 151 (by omega)]; exact h11.2.2 i hi
theorem rs_n {V : Va} {w I T k t : Nat} {μ ν : Nat → Nat} (h : StpP V I t μ ν) (hn : ¬ ν 1 = 2) : rsW V w I (T + 1) k t μ = rsW V w I T (k + 1) (t + 1) ν := by
  by_cases ha : ahW V μ &&& I = 0
  · rcases h.1 ha with ⟨_, a, _⟩ | ⟨a1, a2, a3, a4, a5⟩
    · exact absurd a hn
    · unfold rsW
      rw [← a4, a5, ha, a3]
      by_cases hT : T < mgW V (t + 1) ν
      · rw [if_pos (Or.inr hT), if_pos (Or.inr (by omega))]
      · have c1 : ¬ ((0 : Nat) ≠ 0 ∨ T + 1 < mgW V (t + 1) ν + 1) := fun hh => hh.elim (fun x => x rfl) (fun x => hT (by omega))
        have c2 : ¬ ((0 : Nat) ≠ 0 ∨ T < mgW V (t + 1) ν) := fun hh => hh.elim (fun x => x rfl) (fun x => hT x)
        rw [if_neg c1, if_neg c2, show k + (mgW V (t + 1) ν + 1) = k + 1 + mgW V (t + 1) ν by omega]
  · unfold rsW
    rw [if_pos (Or.inl ha), if_pos (Or.inl (h.2 ha).2)]
theorem rs_y {V : Va} {w I T k t : Nat} {μ ν : Nat → Nat} (h : StpP V I t μ ν) (hy : ν 1 = 2) : rsW V w I (T + 1) k t μ = if w = 0 then nI (k + 1) else nI (ν 3) := by
  by_cases ha : ahW V μ &&& I = 0
  · rcases h.1 ha with ⟨a1, a2, a3⟩ | ⟨a1, a2, a3, a4, a5⟩
    · unfold rsW
      rw [a1, ha, ← a3, if_neg (fun hh => hh.elim (fun x => x rfl) (fun x => by omega))]
    · exact absurd hy a2
  · exact absurd hy (h.2 ha).1
set_option maxHeartbeats 1000000 in
theorem ml_out {S : Scr} {d : Nat} {f : FF} {g : GG} {m w : Nat} {V : Va} (G : GOm g) (hVa : MVa f V) (hV : VWf V) (hw : w < 2) : ∀ (t k : Nat) (f1 : FF) (M : Nat → Nat → Nat), t + k = 240 → (∀ x, x ≠ 149 → f1 x = f x) → MR1 (f1 149) M → MoW V M → M 0 0 + t < 2 ^ 20 → m < M 0 2 → ¬ M (m + 1) 1 = 2 → Wp S (d + 4) 138 41 [some (.ref 137), some (.int (nI m)), some (.int (nI w)), some (.int (nI (k + 1)))] [] 153 f1 g (fun v n' f' g' => v = some (.int (rsW V w (M 0 1) t k (M 0 0) (M (m + 1)))) ∧ n' = 153 ∧ g' = g ∧ ∀ x, x ≠ 149 → f' x = f x) := by
  intro t
  induction t with
  | zero =>
    intro k f1 M e0 e1 e2 e3 e4 e5 e6
    refine w_iload_n k138_41 rfl ?_
    refine w_sipush k138_42 ?_
    refine w_icmp_gt k138_45 (fun h45 => ?_) (fun h45 => absurd ((nI_ltI (a := 240) (by omega) (by omega)).mpr (by omega)) h45)
    refine w_bipush k138_93 ?_
    refine w_iret k138_95 mt138 (.int) rfl (rfl) ?_
    have hp := mg_pos hV (e3.2.2.2 m e5)
    refine ⟨?_, rfl, rfl, e1⟩
    rw [show rsW V w (M 0 1) 0 k (M 0 0) (M (m + 1)) = -4 from if_pos (Or.inr hp)]
  | succ t ih =>
    intro k f1 M e0 e1 e2 e3 e4 e5 e6
    have h6 := e3.1
    have hst := stp_A (I := M 0 1) hV (e3.2.2.2 m e5) e6
    have hW2 := e3.min hV (by omega)
    have hw2 := hW2.2.2.2 m e5
    rw [mn_msg] at hw2
    have hw21 := hw2.2.1
    refine w_iload_n k138_41 rfl ?_
    refine w_sipush k138_42 ?_
    refine w_icmp_gt k138_45 (fun h45 => absurd h45 (fun hh => absurd ((nI_ltI (a := 240) (by omega) (by omega)).mp hh) (by omega))) (fun h45 => ?_)
    refine w_aload_n k138_48 rfl rfl ?_
    refine w_aload_n k138_49 rfl rfl ?_
    refine w_getr k138_50 (k := 17) kd137 (by decide) (r137_17 G) ?_
    refine w_vA k138_53 mt110 kd137 ⟨rfl, by decide⟩ [_] rfl rfl rfl (mp_passes G kd149 (hVa.arr kd149 e1) hV e2 e3) ?_
    rintro _ _ f2 _ ⟨rfl, rfl, rfl, hO2, hM2⟩
    refine w_aload_n k138_56 rfl rfl ?_
    refine w_getr k138_57 (k := 17) kd137 (by decide) (r137_17 G) ?_
    refine w_iload_n k138_60 rfl ?_
    refine w_iconst k138_61 ?_
    refine w_sI k138_62 (by decide) mt79 [_, _, _] rfl rfl rfl (mp_is (m := m) (w := 1) kd149 (by omega) (by omega)) ?_
    rw [hM2.k (m := m) (k := 1) e5 (by omega), mn_msg]
    refine w_iconst k138_65 ?_
    refine w_icmp_ne k138_66 (fun h66 => ?_) (fun h66 => ?_)
    ·
      have y1 : ¬ msA V (M 0 0) (M 0 1) (M (m + 1)) 1 = 2 := fun hh => h66 (by rw [hh]; rfl)
      refine w_iinc k138_87 rfl (ls' := [_, _, _, _]) rfl ?_
      refine w_goto k138_90 ?_
      rw [nI_1, rs_n hst y1, ← mn_msg]
      exact ih (k + 1) f2 (mnA V M) (by omega) (fun x hx => by rw [hO2 x hx, e1 x hx]) hM2 hW2 (by show M 0 0 + 1 + t < 2 ^ 20; omega) e5 (by rw [mn_msg]; exact y1)
    ·
      have y1 : msA V (M 0 0) (M 0 1) (M (m + 1)) 1 = 2 := (nI_eq (b := 2) (by omega) (by omega)).mp h66
      rw [rs_y hst y1]
      refine w_iload_n k138_69 rfl ?_
      refine w_if_ne k138_70 (fun h70 => ?_) (fun h70 => ?_)
      ·
        have y3 : ¬ w = 0 := fun hh => h70 (by rw [hh]; rfl)
        rw [if_neg y3]
        refine w_aload_n k138_77 rfl rfl ?_
        refine w_getr k138_78 (k := 17) kd137 (by decide) (r137_17 G) ?_
        refine w_iload_n k138_81 rfl ?_
        refine w_iconst k138_82 ?_
        refine w_sI k138_83 (by decide) mt79 [_, _, _] rfl rfl rfl (mp_is (m := m) (w := 3) kd149 (by omega) (by omega)) ?_
        rw [hM2.k (m := m) (k := 3) e5 (by omega), mn_msg]
        refine w_iret k138_86 mt138 (.int) rfl (rfl) ?_
        exact ⟨rfl, rfl, rfl, fun x hx => by rw [hO2 x hx, e1 x hx]⟩
      ·
        have y3 : w = 0 := (nI_eq (b := 0) (by omega) (by omega)).mp h70
        rw [if_pos y3]
        refine w_iload_n k138_73 rfl ?_
        refine w_goto k138_74 ?_
        refine w_iret k138_86 mt138 (.int) rfl (rfl) ?_
        exact ⟨rfl, rfl, rfl, fun x hx => by rw [hO2 x hx, e1 x hx]⟩
set_option maxHeartbeats 1000000 in
theorem mp_out {S : Scr} {d : Nat} {f : FF} {g : GG} {B : Nat} {tx : Nat → Nat} {tl : Nat} {V : Va} {M : Nat → Nat → Nat} {uN : Nat} {uL : Nat → Nat → Nat → Nat} {kN : Nat} {kL : Nat → Nat → Nat → Nat} {sn : Nat} {se : Nat → Nat → Nat} (G : GOm g) (hR : MRl f g tx tl V M uN uL kN kL sn se) (hW : StW B tx tl V M uN uL kN kL sn se) (h1 : 1 ≤ V.1) {c w : Nat} (hc : c < M 0 2) (hw : w < 2) (hs : ¬ M (c + 1) 1 = 2) (hB : M 0 0 + 240 < 2 ^ 20) : Wp S (d + 4) 138 0 [some (.ref 137), some (.int (nI c)), some (.int (nI w)), none] [] 153 f g (MdQ f g (ouW V (M 0 0) (M 0 1) (M (c + 1)) w) tx tl V M uN uL kN kL sn se) := by
  obtain ⟨g0, hL, hVa, hA, hU, hK, hS⟩ := id hR
  have h200 := hL.2.1
  have hV := hW.2.1
  have hM := hW.2.2.1.1
  have h9 := hV.1
  have hm6 := hM.1
  have hmt := hM.2.1
  have hmi := hM.2.2.1
  have hm12 := hM.l12 h9 c hc
  refine w_aload_n k138_0 rfl rfl ?_
  refine w_iload_n k138_1 rfl ?_
  refine w_vI k138_2 mt84 kd137 ⟨rfl, by decide⟩ [_] rfl rfl rfl (mp_isMessage G hA hm6 _) ?_
  rw [has_dec (by omega) (by omega)]
  refine w_if_eq k138_5 (fun h5 => absurd h5 (bI_n0.mpr (decide_eq_true hc))) (fun h5 => ?_)
  refine w_iload_n k138_8 rfl ?_
  refine w_iconst k138_9 ?_
  refine w_iconst k138_10 ?_
  refine w_sI k138_11 (by decide) mt59 [_, _, _] rfl rfl rfl (mp_in _ _ _) ?_
  refine w_if_ne k138_14 (fun h14 => ?_) (fun h14 => absurd h14 (bI_n0.mpr (decide_eq_true ⟨(nI_leI (a := 0) (by omega) (by omega)).mpr (by omega), (nI_leI (b := 1) (by omega) (by omega)).mpr (by omega)⟩)))
  refine w_aload_n k138_19 rfl rfl ?_
  refine w_getr k138_20 (k := 16) kd137 (by decide) (r137_16 G) ?_
  refine w_iload_n k138_23 rfl ?_
  refine w_iconst k138_24 ?_
  refine w_sI k138_25 (by decide) mt79 [_, _, _] rfl rfl rfl (mp_is (w := 1) kd148 (by omega) (by omega)) ?_
  rw [hA.k (k := 1) hc (by omega)]
  refine w_iconst k138_28 ?_
  refine w_icmp_ne k138_29 (fun h29 => ?_) (fun h29 => absurd h29 (fun hh => hs ((nI_eq (b := 2) (by omega) (by omega)).mp hh)))
  refine w_aload_n k138_35 rfl rfl ?_
  refine w_vA k138_36 mt137 kd137 ⟨rfl, by decide⟩ [] rfl rfl rfl (mp_copyNow G) ?_
  rintro _ _ f1 _ ⟨rfl, rfl, rfl, hO, hq⟩
  have hT1 : MR1 (f1 149) M := hA.eq hm6 hq
  refine w_iconst k138_39 ?_
  refine w_istore_n k138_40 (ls' := [_, _, _, _]) rfl ?_
  refine (ml_out (m := c) G (hVa.arr kd149 hO) hV hw 240 0 f1 M rfl (fun _ _ => rfl) hT1 hM hB hc hs).mono ?_
  rintro _ _ f3 _ ⟨rfl, rfl, rfl, hO3⟩
  have e : ouW V (M 0 0) (M 0 1) (M (c + 1)) w = rsW V w (M 0 1) 240 0 (M 0 0) (M (c + 1)) := by
    unfold ouW rsW
    rw [Nat.zero_add]
  rw [e]
  have hO4 : ∀ x, x ≠ 149 → f3 x = f x := fun x hx => by rw [hO3 x hx, hO x hx]
  exact ⟨rfl, rfl, rfl, fun x hx => hO4 x (by omega), hR.t hO4⟩
set_option maxHeartbeats 1000000 in
theorem mp_outN {S : Scr} {d : Nat} {f : FF} {g : GG} {B : Nat} {tx : Nat → Nat} {tl : Nat} {V : Va} {M : Nat → Nat → Nat} {uN : Nat} {uL : Nat → Nat → Nat → Nat} {kN : Nat} {kL : Nat → Nat → Nat → Nat} {sn : Nat} {se : Nat → Nat → Nat} (G : GOm g) (hR : MRl f g tx tl V M uN uL kN kL sn se) (hW : StW B tx tl V M uN uL kN kL sn se) (h1 : 1 ≤ V.1) {c w : Nat} (hc : c < M 0 2) (hw : w < 2) (hs : M (c + 1) 1 = 2) : Wp S (d + 4) 138 0 [some (.ref 137), some (.int (nI c)), some (.int (nI w)), none] [] 153 f g (MdQ f g (-2) tx tl V M uN uL kN kL sn se) := by
  obtain ⟨g0, hL, hVa, hA, hU, hK, hS⟩ := id hR
  have h200 := hL.2.1
  have hV := hW.2.1
  have hM := hW.2.2.1.1
  have h9 := hV.1
  have hm6 := hM.1
  have hmt := hM.2.1
  have hmi := hM.2.2.1
  have hm12 := hM.l12 h9 c hc
  refine w_aload_n k138_0 rfl rfl ?_
  refine w_iload_n k138_1 rfl ?_
  refine w_vI k138_2 mt84 kd137 ⟨rfl, by decide⟩ [_] rfl rfl rfl (mp_isMessage G hA hm6 _) ?_
  rw [has_dec (by omega) (by omega)]
  refine w_if_eq k138_5 (fun h5 => absurd h5 (bI_n0.mpr (decide_eq_true hc))) (fun h5 => ?_)
  refine w_iload_n k138_8 rfl ?_
  refine w_iconst k138_9 ?_
  refine w_iconst k138_10 ?_
  refine w_sI k138_11 (by decide) mt59 [_, _, _] rfl rfl rfl (mp_in _ _ _) ?_
  refine w_if_ne k138_14 (fun h14 => ?_) (fun h14 => absurd h14 (bI_n0.mpr (decide_eq_true ⟨(nI_leI (a := 0) (by omega) (by omega)).mpr (by omega), (nI_leI (b := 1) (by omega) (by omega)).mpr (by omega)⟩)))
  refine w_aload_n k138_19 rfl rfl ?_
  refine w_getr k138_20 (k := 16) kd137 (by decide) (r137_16 G) ?_
  refine w_iload_n k138_23 rfl ?_
  refine w_iconst k138_24 ?_
  refine w_sI k138_25 (by decide) mt79 [_, _, _] rfl rfl rfl (mp_is (w := 1) kd148 (by omega) (by omega)) ?_
  rw [hA.k (k := 1) hc (by omega), hs]
  refine w_iconst k138_28 ?_
  refine w_icmp_ne k138_29 (fun h29 => absurd (rfl) h29) (fun h29 => ?_)
  refine w_bipush k138_32 ?_
  refine w_iret k138_34 mt138 (.int) rfl (rfl) ?_
  exact MdQ.same hR
set_option maxHeartbeats 1000000 in
theorem mp_out0 {S : Scr} {d : Nat} {f : FF} {g : GG} {B : Nat} {tx : Nat → Nat} {tl : Nat} {V : Va} {M : Nat → Nat → Nat} {uN : Nat} {uL : Nat → Nat → Nat → Nat} {kN : Nat} {kL : Nat → Nat → Nat → Nat} {sn : Nat} {se : Nat → Nat → Nat} (G : GOm g) (hR : MRl f g tx tl V M uN uL kN kL sn se) (hW : StW B tx tl V M uN uL kN kL sn se) (h1 : 1 ≤ V.1) {x y : Int32} (hb : ¬ ((0 ≤ x ∧ x < nI (M 0 2)) ∧ 0 ≤ y ∧ y ≤ 1)) : Wp S (d + 4) 138 0 [some (.ref 137), some (.int x), some (.int y), none] [] 153 f g (MdQ f g (-1) tx tl V M uN uL kN kL sn se) := by
  obtain ⟨g0, hL, hVa, hA, hU, hK, hS⟩ := id hR
  have h200 := hL.2.1
  have hV := hW.2.1
  have hM := hW.2.2.1.1
  have h9 := hV.1
  have hm6 := hM.1
  have hmt := hM.2.1
  have hmi := hM.2.2.1
  refine w_aload_n k138_0 rfl rfl ?_
  refine w_iload_n k138_1 rfl ?_
  refine w_vI k138_2 mt84 kd137 ⟨rfl, by decide⟩ [_] rfl rfl rfl (mp_isMessage G hA hm6 _) ?_
  refine w_if_eq k138_5 (fun h5 => ?_) (fun h5 => ?_)
  ·
    refine w_iconst k138_17 ?_
    refine w_iret k138_18 mt138 (.int) rfl (rfl) ?_
    exact MdQ.same hR
  ·
    have x5 := of_decide_eq_true (bI_n0.mp h5)
    refine w_iload_n k138_8 rfl ?_
    refine w_iconst k138_9 ?_
    refine w_iconst k138_10 ?_
    refine w_sI k138_11 (by decide) mt59 [_, _, _] rfl rfl rfl (mp_in _ _ _) ?_
    refine w_if_ne k138_14 (fun h14 => absurd (bI_0.mpr (decide_eq_false fun hh => hb ⟨x5, hh⟩)) h14) (fun h14 => ?_)
    refine w_iconst k138_17 ?_
    refine w_iret k138_18 mt138 (.int) rfl (rfl) ?_
    exact MdQ.same hR
theorem itM_2 {V : Va} : ∀ t M, itM V t M 0 2 = M 0 2 := by
  intro t
  induction t with
  | zero => intro M; rfl
  | succ t ih => intro M; exact ih (mnA V M)
set_option maxHeartbeats 1000000 in
theorem ml_all {S : Scr} {d : Nat} {f : FF} {g : GG} {V : Va} {q1 : Int32} (G : GOm g) (hVa : MVa f V) (hV : VWf V) : ∀ (t k : Nat) (f1 : FF) (M : Nat → Nat → Nat), t + k = 240 → (∀ x, x ≠ 149 → f1 x = f x) → MR1 (f1 149) M → MoW V M → M 0 0 + t < 2 ^ 20 → Wp S (d + 4) 146 18 [some (.ref 137), some (.int q1), some (.int (nI k))] [] 153 f1 g (fun v n' f' g' => v = some (.int (bI (decide (howAre (itM V t M) 2 (M 0 2) 0 0 = M 0 2)))) ∧ n' = 153 ∧ g' = g ∧ ∀ x, x ≠ 149 → f' x = f x) := by
  have h9 := hV.1
  intro t
  induction t with
  | zero =>
    intro k f1 M e0 e1 e2 e3 e4
    have h6 := e3.1
    have hle := howAre_le (M := M) (s := 2) (M 0 2) 0 0
    refine w_iload_n k146_18 rfl ?_
    refine w_sipush k146_19 ?_
    refine w_icmp_ge k146_22 (fun h22 => ?_) (fun h22 => absurd (nI_le (a := 240) (by omega) (by omega)) h22)
    refine w_aload_n k146_39 rfl rfl ?_
    refine w_getr k146_40 (k := 17) kd137 (by decide) (r137_17 G) ?_
    refine w_sI k146_43 (by decide) mt111 [_] rfl rfl rfl (mp_outOf kd149 e2 e3.1 (e3.l12 h9)) ?_
    refine w_aload_n k146_46 rfl rfl ?_
    refine w_getr k146_47 (k := 17) kd137 (by decide) (r137_17 G) ?_
    refine w_iconst k146_50 ?_
    refine w_iald k146_51 kd149 (by decide) (show (2 : Int32).toNatClampNeg = 2 from rfl) (by decide) ?_
    rw [e2.2.2.1]
    refine w_icmp_ne k146_52 (fun h52 => ?_) (fun h52 => ?_)
    ·
      have y1 : ¬ howAre M 2 (M 0 2) 0 0 = M 0 2 := fun hh => h52 (by rw [hh])
      refine w_iconst k146_59 ?_
      refine w_iret k146_60 mt146 (.boolean) rfl (rfl) ?_
      refine ⟨?_, rfl, rfl, e1⟩
      show _ = some (Value.int (bI (decide (howAre M 2 (M 0 2) 0 0 = M 0 2))))
      first
        | (rw [decide_eq_true y1]; rfl)
        | (rw [decide_eq_false y1]; rfl)
    ·
      have y1 : howAre M 2 (M 0 2) 0 0 = M 0 2 := (nI_eq (by omega) (by omega)).mp h52
      refine w_iconst k146_55 ?_
      refine w_goto k146_56 ?_
      refine w_iret k146_60 mt146 (.boolean) rfl (rfl) ?_
      refine ⟨?_, rfl, rfl, e1⟩
      show _ = some (Value.int (bI (decide (howAre M 2 (M 0 2) 0 0 = M 0 2))))
      first
        | (rw [decide_eq_true y1]; rfl)
        | (rw [decide_eq_false y1]; rfl)
  | succ t ih =>
    intro k f1 M e0 e1 e2 e3 e4
    refine w_iload_n k146_18 rfl ?_
    refine w_sipush k146_19 ?_
    refine w_icmp_ge k146_22 (fun h22 => absurd h22 (nI_ge (b := 240) (by omega) (by omega))) (fun h22 => ?_)
    refine w_aload_n k146_25 rfl rfl ?_
    refine w_aload_n k146_26 rfl rfl ?_
    refine w_getr k146_27 (k := 17) kd137 (by decide) (r137_17 G) ?_
    refine w_vA k146_30 mt110 kd137 ⟨rfl, by decide⟩ [_] rfl rfl rfl (mp_passes G kd149 (hVa.arr kd149 e1) hV e2 e3) ?_
    rintro _ _ f2 _ ⟨rfl, rfl, rfl, hO2, hM2⟩
    refine w_iinc k146_33 rfl (ls' := [_, _, _]) rfl ?_
    refine w_goto k146_36 ?_
    rw [nI_1]
    exact ih (k + 1) f2 (mnA V M) (by omega) (fun x hx => by rw [hO2 x hx, e1 x hx]) hM2 (e3.min hV (by omega)) (by show M 0 0 + 1 + t < 2 ^ 20; omega)
set_option maxHeartbeats 1000000 in
theorem mp_allOut {S : Scr} {d : Nat} {f : FF} {g : GG} (G : GOm g) {V : Va} {M : Nat → Nat → Nat} (hVa : MVa f V) (hV : VWf V) (hA : MR1 (f 148) M) (hM : MoW V M) (hB : M 0 0 + 240 < 2 ^ 20) {s : Nat} (hs : s < 512) : Wp S (d + 4) 146 0 [some (.ref 137), some (.int (nI s)), none] [] 153 f g (fun v n' f' g' => ∃ b : Bool, v = some (.int (bI b)) ∧ (b = true ↔ okS V M (M 0 1 &&& (511 ^^^ s))) ∧ n' = 153 ∧ g' = g ∧ ∀ x, x ≠ 149 → f' x = f x) := by
  have hm6 := hM.1
  have hmi := hM.2.2.1
  refine w_aload_n k146_0 rfl rfl ?_
  refine w_vA k146_1 mt137 kd137 ⟨rfl, by decide⟩ [] rfl rfl rfl (mp_copyNow G) ?_
  rintro _ _ f1 _ ⟨rfl, rfl, rfl, hO, hq⟩
  have hT1 : MR1 (f1 149) M := hA.eq hm6 hq
  refine w_aload_n k146_4 rfl rfl ?_
  refine w_getr k146_5 (k := 17) kd137 (by decide) (r137_17 G) ?_
  refine w_iconst k146_8 ?_
  refine w_dup2 k146_9 rfl rfl ?_
  refine w_iald k146_10 kd149 (by decide) (show (1 : Int32).toNatClampNeg = 1 from rfl) (by decide) ?_
  rw [hT1.2.1]
  refine w_iload_n k146_11 rfl ?_
  refine w_iconst k146_12 ?_
  refine w_ixor k146_13 ?_
  refine w_iand k146_14 ?_
  rw [not_n hmi]
  refine w_iast k146_15 kd149 (by decide) (show (1 : Int32).toNatClampNeg = 1 from rfl) (by decide) ?_
  refine w_iconst k146_16 ?_
  refine w_istore_n k146_17 (ls' := [_, _, _]) rfl ?_
  have hin : M 0 1 &&& (511 ^^^ s) < 512 := Nat.lt_of_le_of_lt Nat.and_le_left hmi
  refine (ml_all G ((hVa.arr kd149 hO).up kd149) hV 240 0 _ _ rfl (fun _ _ => rfl) (hT1.ind fup_self (fun k hk => fup_ne hk)) (hM.ind hin) hB).mono ?_
  rintro _ _ f3 _ ⟨rfl, rfl, rfl, hO3⟩
  exact ⟨_, rfl, decide_eq_true_iff.trans (okS_it hV hM hin hB), rfl, rfl, fun x hx => by rw [hO3 x hx]; funext y; rw [fup_no hx, hO x hx]⟩
def BI (V : Va) (M : Nat → Nat → Nat) (s : Nat) (best : Int32) : Prop := (¬ fnP V M (M 0 2) 0 → best = -4) ∧ (fnP V M (M 0 2) 0 → s ≤ hold V M → best = -4) ∧ (fnP V M (M 0 2) 0 → hold V M < s → best = nI (hold V M))
theorem BI.keep {V : Va} {M : Nat → Nat → Nat} {s : Nat} {best : Int32} (h : BI V M s best) (hn : fnP V M (M 0 2) 0 → s ≠ hold V M) : BI V M (s + 1) best :=
  ⟨h.1, fun hf hs => h.2.1 hf (by omega), fun hf hs => h.2.2 hf (by have := hn hf; omega)⟩
theorem BI.take {V : Va} {M : Nat → Nat → Nat} {s : Nat} (hf : fnP V M (M 0 2) 0) (hs : s = hold V M) : BI V M (s + 1) (nI s) := by
  subst hs
  exact ⟨fun hh => absurd hf hh, fun _ hh => by omega, fun _ _ => rfl⟩
theorem hold_in {V : Va} {M : Nat → Nat → Nat} (hM : MoW V M) : hold V M &&& (511 ^^^ M 0 1) = 0 := hdA_in (self_out hM.2.2.1) (M 0 2) 0 0 (Nat.zero_and _)
theorem hdA_lt {V : Va} {M : Nat → Nat → Nat} (hi : M 0 1 < 512) : ∀ t m h, h < 2 ^ 9 → hdA V M t m h < 2 ^ 9 := by
  intro t
  induction t with
  | zero => intro m h hh; exact hh
  | succ t ih =>
    intro m h hh
    simp only [hdA]
    refine ih _ _ ?_
    split
    · exact hh
    · exact or_lt hh (Nat.lt_of_le_of_lt Nat.and_le_right hi)
theorem hold_lt {V : Va} {M : Nat → Nat → Nat} (hM : MoW V M) : hold V M < 512 := hdA_lt hM.2.2.1 (M 0 2) 0 0 (by decide)
theorem m4_ne {a : Nat} (h : a < 512) : ¬ nI a = -4 := fun hh => absurd (show (0 : Int32) ≤ -4 from hh ▸ nI_pos' (by omega)) (by decide)
set_option maxHeartbeats 1000000 in
theorem ml_bring {S : Scr} {d : Nat} {f : FF} {g : GG} {w : Nat} {V : Va} {M : Nat → Nat → Nat} (G : GOm g) (hVa : MVa f V) (hV : VWf V) (hA : MR1 (f 148) M) (hM : MoW V M) (hB : M 0 0 + 240 < 2 ^ 20) (hw : w < 2) : ∀ (t s : Nat) (f1 : FF) (best : Int32) (q4 : Option Value), t + s = M 0 1 + 1 → (∀ x, x ≠ 149 → f1 x = f x) → BI V M s best → Wp S (d + 5) 147 16 [some (.ref 137), some (.int (nI w)), some (.int (best)), some (.int (nI s)), q4] [] 153 f1 g (fun v n' f' g' => v = some (.int (brV (brA V M (M 0 2) 0 0) w)) ∧ n' = 153 ∧ g' = g ∧ ∀ x, x ≠ 149 → f' x = f x) := by
  have hmi := hM.2.2.1
  have hhl := hold_lt hM
  have hhin := hold_in hM
  have hhle := sub_le hhl hhin
  intro t
  induction t with
  | zero =>
    intro s f1 best q4 e0 e1 e2
    by_cases hf : fnP V M (M 0 2) 0
    · obtain rfl := e2.2.2 hf (by omega)
      rw [brA_y _ _ _ hf]
      refine w_iload_n k147_16 rfl ?_
      refine w_aload_n k147_17 rfl rfl ?_
      refine w_getr k147_18 (k := 16) kd137 (by decide) (r137_16 G) ?_
      refine w_iconst k147_21 ?_
      refine w_iald k147_22 kd148 (by decide) (show (1 : Int32).toNatClampNeg = 1 from rfl) (by decide) ?_
      rw [e1 148 (by omega), hA.2.1]
      refine w_icmp_gt k147_23 (fun h23 => ?_) (fun h23 => absurd ((nI_ltI (by omega) (by omega)).mpr (by omega)) h23)
      refine w_iload_n k147_88 rfl ?_
      refine w_bipush k147_89 ?_
      refine w_icmp_ne k147_91 (fun h91 => ?_) (fun h91 => absurd h91 (m4_ne hhl))
      refine w_iload_n k147_99 rfl ?_
      refine w_if_ne k147_100 (fun h100 => ?_) (fun h100 => ?_)
      ·
        have y3 : ¬ w = 0 := fun hh => h100 (by rw [hh]; rfl)
        refine w_iload_n k147_110 rfl ?_
        refine w_iret k147_111 mt147 (.int) rfl (rfl) ?_
        refine ⟨?_, rfl, rfl, e1⟩
        unfold brV
        first
          | exact congrArg (fun z => some (Value.int z)) (if_pos y3).symm
          | exact congrArg (fun z => some (Value.int z)) (if_neg y3).symm
      ·
        have y3 : w = 0 := (nI_eq (b := 0) (by omega) (by omega)).mp h100
        refine w_iload_n k147_103 rfl ?_
        refine w_sI k147_104 (by decide) mt145 [_] rfl rfl rfl (mp_bits hhl) ?_
        refine w_goto k147_107 ?_
        refine w_iret k147_111 mt147 (.int) rfl (rfl) ?_
        refine ⟨?_, rfl, rfl, e1⟩
        unfold brV
        first
          | exact congrArg (fun z => some (Value.int z)) (if_pos y3).symm
          | exact congrArg (fun z => some (Value.int z)) (if_neg y3).symm
    · obtain rfl := e2.1 hf
      rw [brA_n _ _ _ hf]
      refine w_iload_n k147_16 rfl ?_
      refine w_aload_n k147_17 rfl rfl ?_
      refine w_getr k147_18 (k := 16) kd137 (by decide) (r137_16 G) ?_
      refine w_iconst k147_21 ?_
      refine w_iald k147_22 kd148 (by decide) (show (1 : Int32).toNatClampNeg = 1 from rfl) (by decide) ?_
      rw [e1 148 (by omega), hA.2.1]
      refine w_icmp_gt k147_23 (fun h23 => ?_) (fun h23 => absurd ((nI_ltI (by omega) (by omega)).mpr (by omega)) h23)
      refine w_iload_n k147_88 rfl ?_
      refine w_bipush k147_89 ?_
      refine w_icmp_ne k147_91 (fun h91 => absurd (rfl) h91) (fun h91 => ?_)
      refine w_bipush k147_94 ?_
      refine w_goto k147_96 ?_
      refine w_iret k147_111 mt147 (.int) rfl (rfl) ?_
      exact ⟨rfl, rfl, rfl, e1⟩
  | succ t ih =>
    intro s f1 best q4 e0 e1 e2
    refine w_iload_n k147_16 rfl ?_
    refine w_aload_n k147_17 rfl rfl ?_
    refine w_getr k147_18 (k := 16) kd137 (by decide) (r137_16 G) ?_
    refine w_iconst k147_21 ?_
    refine w_iald k147_22 kd148 (by decide) (show (1 : Int32).toNatClampNeg = 1 from rfl) (by decide) ?_
    rw [e1 148 (by omega), hA.2.1]
    refine w_icmp_gt k147_23 (fun h23 => absurd h23 (fun hh => absurd ((nI_ltI (by omega) (by omega)).mp hh) (by omega))) (fun h23 => ?_)
    refine w_iload_n k147_26 rfl ?_
    refine w_aload_n k147_27 rfl rfl ?_
    refine w_getr k147_28 (k := 16) kd137 (by decide) (r137_16 G) ?_
    refine w_iconst k147_31 ?_
    refine w_iald k147_32 kd148 (by decide) (show (1 : Int32).toNatClampNeg = 1 from rfl) (by decide) ?_
    rw [e1 148 (by omega), hA.2.1]
    refine w_iconst k147_33 ?_
    refine w_ixor k147_34 ?_
    refine w_iand k147_35 ?_
    rw [not_n (by omega)]
    have hal : s &&& (511 ^^^ M 0 1) ≤ s := Nat.and_le_left
    refine w_if_ne k147_36 (fun h36 => ?_) (fun h36 => ?_)
    ·
      have y36 : ¬ s &&& (511 ^^^ M 0 1) = 0 := fun hh => h36 (by rw [hh]; rfl)
      refine w_iconst k147_60 ?_
      refine w_istore k147_61 (ls' := [_, _, _, _, _]) rfl ?_
      refine w_iload k147_63 rfl ?_
      refine w_if_eq k147_65 (fun h65 => ?_) (fun h65 => ?_)
      ·
        refine w_iload_n k147_80 rfl ?_
        refine w_istore_n k147_81 (ls' := [_, _, _, _, _]) rfl ?_
        refine w_iinc k147_82 rfl (ls' := [_, _, _, _, _]) rfl ?_
        refine w_goto k147_85 ?_
        first
          | exact absurd h65 (by decide)
          | (rw [nI_1]
             refine ih (s + 1) _ _ _ (by omega) ?_ ?_
             · exact e1
             · refine e2.keep (fun hf hs => ?_)
               first
                 | exact y36 (by rw [hs]; exact hhin)
                 | (have hb := h53; have hx := y53; rw [hs] at hx; exact absurd hx.2 (by omega)))
          | (rw [nI_1]
             refine ih (s + 1) _ _ _ (by omega) (fun x hx => by rw [hO2 x hx, e1 x hx]) ?_
             have hok := okS_hold.mp (hb2.mp z73)
             have hle := sub_le hhl hok.2
             have hpo := sub_popc hhl hok.2 9
             refine BI.take hok.1 ?_
             first
               | (have := y42 hok.1; omega)
               | (have := y53; omega))
          | (rw [nI_1]
             refine ih (s + 1) _ _ _ (by omega) (fun x hx => by rw [hO2 x hx, e1 x hx]) ?_
             refine e2.keep (fun hf hs => ?_)
             have hok : okS V M (M 0 1 &&& (511 ^^^ s)) := okS_hold.mpr ⟨hf, by rw [hs]; exact self_out hhl⟩
             rw [hb2.mpr hok] at z73
             cases z73)
      ·
        refine w_aload_n k147_68 rfl rfl ?_
        refine w_iload_n k147_69 rfl ?_
        refine w_vA k147_70 mt146 kd137 ⟨rfl, by decide⟩ [_] rfl rfl rfl (mp_allOut G (hVa.arr kd149 e1) hV (by rw [e1 148 (by omega)]; exact hA) hM hB (s := s) (by omega)) ?_
        rintro _ _ f2 _ ⟨b2, rfl, hb2, rfl, rfl, hO2⟩
        refine w_if_eq k147_73 (fun h73 => ?_) (fun h73 => ?_)
        ·
          have z73 := bI_0.mp h73
          refine w_iload_n k147_80 rfl ?_
          refine w_istore_n k147_81 (ls' := [_, _, _, _, _]) rfl ?_
          refine w_iinc k147_82 rfl (ls' := [_, _, _, _, _]) rfl ?_
          refine w_goto k147_85 ?_
          first
            | exact absurd h65 (by decide)
            | (rw [nI_1]
               refine ih (s + 1) _ _ _ (by omega) ?_ ?_
               · exact e1
               · refine e2.keep (fun hf hs => ?_)
                 first
                   | exact y36 (by rw [hs]; exact hhin)
                   | (have hb := h53; have hx := y53; rw [hs] at hx; exact absurd hx.2 (by omega)))
            | (rw [nI_1]
               refine ih (s + 1) _ _ _ (by omega) (fun x hx => by rw [hO2 x hx, e1 x hx]) ?_
               have hok := okS_hold.mp (hb2.mp z73)
               have hle := sub_le hhl hok.2
               have hpo := sub_popc hhl hok.2 9
               refine BI.take hok.1 ?_
               first
                 | (have := y42 hok.1; omega)
                 | (have := y53; omega))
            | (rw [nI_1]
               refine ih (s + 1) _ _ _ (by omega) (fun x hx => by rw [hO2 x hx, e1 x hx]) ?_
               refine e2.keep (fun hf hs => ?_)
               have hok : okS V M (M 0 1 &&& (511 ^^^ s)) := okS_hold.mpr ⟨hf, by rw [hs]; exact self_out hhl⟩
               rw [hb2.mpr hok] at z73
               cases z73)
        ·
          have z73 := bI_n0.mp h73
          refine w_iload_n k147_76 rfl ?_
          refine w_goto k147_77 ?_
          refine w_istore_n k147_81 (ls' := [_, _, _, _, _]) rfl ?_
          refine w_iinc k147_82 rfl (ls' := [_, _, _, _, _]) rfl ?_
          refine w_goto k147_85 ?_
          first
            | exact absurd h65 (by decide)
            | (rw [nI_1]
               refine ih (s + 1) _ _ _ (by omega) ?_ ?_
               · exact e1
               · refine e2.keep (fun hf hs => ?_)
                 first
                   | exact y36 (by rw [hs]; exact hhin)
                   | (have hb := h53; have hx := y53; rw [hs] at hx; exact absurd hx.2 (by omega)))
            | (rw [nI_1]
               refine ih (s + 1) _ _ _ (by omega) (fun x hx => by rw [hO2 x hx, e1 x hx]) ?_
               have hok := okS_hold.mp (hb2.mp z73)
               have hle := sub_le hhl hok.2
               have hpo := sub_popc hhl hok.2 9
               refine BI.take hok.1 ?_
               first
                 | (have := y42 hok.1; omega)
                 | (have := y53; omega))
            | (rw [nI_1]
               refine ih (s + 1) _ _ _ (by omega) (fun x hx => by rw [hO2 x hx, e1 x hx]) ?_
               refine e2.keep (fun hf hs => ?_)
               have hok : okS V M (M 0 1 &&& (511 ^^^ s)) := okS_hold.mpr ⟨hf, by rw [hs]; exact self_out hhl⟩
               rw [hb2.mpr hok] at z73
               cases z73)
    ·
      have y36 : s &&& (511 ^^^ M 0 1) = 0 := (nI_eq (b := 0) (by omega) (by omega)).mp h36
      refine w_iload_n k147_39 rfl ?_
      refine w_bipush k147_40 ?_
      refine w_icmp_eq k147_42 (fun h42 => ?_) (fun h42 => ?_)
      ·
        have y42 : fnP V M (M 0 2) 0 → s ≤ hold V M := fun hf => by
          apply Nat.not_lt.mp
          intro hh
          rw [e2.2.2 hf hh] at h42
          exact m4_ne hhl h42
        refine w_iconst k147_56 ?_
        refine w_goto k147_57 ?_
        refine w_istore k147_61 (ls' := [_, _, _, _, _]) rfl ?_
        refine w_iload k147_63 rfl ?_
        refine w_if_eq k147_65 (fun h65 => ?_) (fun h65 => ?_)
        ·
          refine w_iload_n k147_80 rfl ?_
          refine w_istore_n k147_81 (ls' := [_, _, _, _, _]) rfl ?_
          refine w_iinc k147_82 rfl (ls' := [_, _, _, _, _]) rfl ?_
          refine w_goto k147_85 ?_
          first
            | exact absurd h65 (by decide)
            | (rw [nI_1]
               refine ih (s + 1) _ _ _ (by omega) ?_ ?_
               · exact e1
               · refine e2.keep (fun hf hs => ?_)
                 first
                   | exact y36 (by rw [hs]; exact hhin)
                   | (have hb := h53; have hx := y53; rw [hs] at hx; exact absurd hx.2 (by omega)))
            | (rw [nI_1]
               refine ih (s + 1) _ _ _ (by omega) (fun x hx => by rw [hO2 x hx, e1 x hx]) ?_
               have hok := okS_hold.mp (hb2.mp z73)
               have hle := sub_le hhl hok.2
               have hpo := sub_popc hhl hok.2 9
               refine BI.take hok.1 ?_
               first
                 | (have := y42 hok.1; omega)
                 | (have := y53; omega))
            | (rw [nI_1]
               refine ih (s + 1) _ _ _ (by omega) (fun x hx => by rw [hO2 x hx, e1 x hx]) ?_
               refine e2.keep (fun hf hs => ?_)
               have hok : okS V M (M 0 1 &&& (511 ^^^ s)) := okS_hold.mpr ⟨hf, by rw [hs]; exact self_out hhl⟩
               rw [hb2.mpr hok] at z73
               cases z73)
        ·
          refine w_aload_n k147_68 rfl rfl ?_
          refine w_iload_n k147_69 rfl ?_
          refine w_vA k147_70 mt146 kd137 ⟨rfl, by decide⟩ [_] rfl rfl rfl (mp_allOut G (hVa.arr kd149 e1) hV (by rw [e1 148 (by omega)]; exact hA) hM hB (s := s) (by omega)) ?_
          rintro _ _ f2 _ ⟨b2, rfl, hb2, rfl, rfl, hO2⟩
          refine w_if_eq k147_73 (fun h73 => ?_) (fun h73 => ?_)
          ·
            have z73 := bI_0.mp h73
            refine w_iload_n k147_80 rfl ?_
            refine w_istore_n k147_81 (ls' := [_, _, _, _, _]) rfl ?_
            refine w_iinc k147_82 rfl (ls' := [_, _, _, _, _]) rfl ?_
            refine w_goto k147_85 ?_
            first
              | exact absurd h65 (by decide)
              | (rw [nI_1]
                 refine ih (s + 1) _ _ _ (by omega) ?_ ?_
                 · exact e1
                 · refine e2.keep (fun hf hs => ?_)
                   first
                     | exact y36 (by rw [hs]; exact hhin)
                     | (have hb := h53; have hx := y53; rw [hs] at hx; exact absurd hx.2 (by omega)))
              | (rw [nI_1]
                 refine ih (s + 1) _ _ _ (by omega) (fun x hx => by rw [hO2 x hx, e1 x hx]) ?_
                 have hok := okS_hold.mp (hb2.mp z73)
                 have hle := sub_le hhl hok.2
                 have hpo := sub_popc hhl hok.2 9
                 refine BI.take hok.1 ?_
                 first
                   | (have := y42 hok.1; omega)
                   | (have := y53; omega))
              | (rw [nI_1]
                 refine ih (s + 1) _ _ _ (by omega) (fun x hx => by rw [hO2 x hx, e1 x hx]) ?_
                 refine e2.keep (fun hf hs => ?_)
                 have hok : okS V M (M 0 1 &&& (511 ^^^ s)) := okS_hold.mpr ⟨hf, by rw [hs]; exact self_out hhl⟩
                 rw [hb2.mpr hok] at z73
                 cases z73)
          ·
            have z73 := bI_n0.mp h73
            refine w_iload_n k147_76 rfl ?_
            refine w_goto k147_77 ?_
            refine w_istore_n k147_81 (ls' := [_, _, _, _, _]) rfl ?_
            refine w_iinc k147_82 rfl (ls' := [_, _, _, _, _]) rfl ?_
            refine w_goto k147_85 ?_
            first
              | exact absurd h65 (by decide)
              | (rw [nI_1]
                 refine ih (s + 1) _ _ _ (by omega) ?_ ?_
                 · exact e1
                 · refine e2.keep (fun hf hs => ?_)
                   first
                     | exact y36 (by rw [hs]; exact hhin)
                     | (have hb := h53; have hx := y53; rw [hs] at hx; exact absurd hx.2 (by omega)))
              | (rw [nI_1]
                 refine ih (s + 1) _ _ _ (by omega) (fun x hx => by rw [hO2 x hx, e1 x hx]) ?_
                 have hok := okS_hold.mp (hb2.mp z73)
                 have hle := sub_le hhl hok.2
                 have hpo := sub_popc hhl hok.2 9
                 refine BI.take hok.1 ?_
                 first
                   | (have := y42 hok.1; omega)
                   | (have := y53; omega))
              | (rw [nI_1]
                 refine ih (s + 1) _ _ _ (by omega) (fun x hx => by rw [hO2 x hx, e1 x hx]) ?_
                 refine e2.keep (fun hf hs => ?_)
                 have hok : okS V M (M 0 1 &&& (511 ^^^ s)) := okS_hold.mpr ⟨hf, by rw [hs]; exact self_out hhl⟩
                 rw [hb2.mpr hok] at z73
                 cases z73)
      ·
        have y42b : fnP V M (M 0 2) 0 ∧ hold V M < s := by
          by_cases hf : fnP V M (M 0 2) 0
          · exact ⟨hf, Nat.not_le.mp fun hh => h42 (e2.2.1 hf hh)⟩
          · exact absurd (e2.1 hf) h42
        obtain rfl := e2.2.2 y42b.1 y42b.2
        refine w_iload_n k147_45 rfl ?_
        refine w_sI k147_46 (by decide) mt145 [_] rfl rfl rfl (mp_bits (by omega)) ?_
        refine w_iload_n k147_49 rfl ?_
        refine w_sI k147_50 (by decide) mt145 [_] rfl rfl rfl (mp_bits hhl) ?_
        have hp1 := popc_le s 9
        have hp2 := popc_le (hold V M) 9
        refine w_icmp_ge k147_53 (fun h53 => ?_) (fun h53 => ?_)
        ·
          have y53 : popc (hold V M) 9 ≤ popc s 9 ∧ hold V M < s := ⟨(nI_leI (by omega) (by omega)).mp h53, y42b.2⟩
          refine w_iconst k147_60 ?_
          refine w_istore k147_61 (ls' := [_, _, _, _, _]) rfl ?_
          refine w_iload k147_63 rfl ?_
          refine w_if_eq k147_65 (fun h65 => ?_) (fun h65 => ?_)
          ·
            refine w_iload_n k147_80 rfl ?_
            refine w_istore_n k147_81 (ls' := [_, _, _, _, _]) rfl ?_
            refine w_iinc k147_82 rfl (ls' := [_, _, _, _, _]) rfl ?_
            refine w_goto k147_85 ?_
            first
              | exact absurd h65 (by decide)
              | (rw [nI_1]
                 refine ih (s + 1) _ _ _ (by omega) ?_ ?_
                 · exact e1
                 · refine e2.keep (fun hf hs => ?_)
                   first
                     | exact y36 (by rw [hs]; exact hhin)
                     | (have hb := h53; have hx := y53; rw [hs] at hx; exact absurd hx.2 (by omega)))
              | (rw [nI_1]
                 refine ih (s + 1) _ _ _ (by omega) (fun x hx => by rw [hO2 x hx, e1 x hx]) ?_
                 have hok := okS_hold.mp (hb2.mp z73)
                 have hle := sub_le hhl hok.2
                 have hpo := sub_popc hhl hok.2 9
                 refine BI.take hok.1 ?_
                 first
                   | (have := y42 hok.1; omega)
                   | (have := y53; omega))
              | (rw [nI_1]
                 refine ih (s + 1) _ _ _ (by omega) (fun x hx => by rw [hO2 x hx, e1 x hx]) ?_
                 refine e2.keep (fun hf hs => ?_)
                 have hok : okS V M (M 0 1 &&& (511 ^^^ s)) := okS_hold.mpr ⟨hf, by rw [hs]; exact self_out hhl⟩
                 rw [hb2.mpr hok] at z73
                 cases z73)
          ·
            refine w_aload_n k147_68 rfl rfl ?_
            refine w_iload_n k147_69 rfl ?_
            refine w_vA k147_70 mt146 kd137 ⟨rfl, by decide⟩ [_] rfl rfl rfl (mp_allOut G (hVa.arr kd149 e1) hV (by rw [e1 148 (by omega)]; exact hA) hM hB (s := s) (by omega)) ?_
            rintro _ _ f2 _ ⟨b2, rfl, hb2, rfl, rfl, hO2⟩
            refine w_if_eq k147_73 (fun h73 => ?_) (fun h73 => ?_)
            ·
              have z73 := bI_0.mp h73
              refine w_iload_n k147_80 rfl ?_
              refine w_istore_n k147_81 (ls' := [_, _, _, _, _]) rfl ?_
              refine w_iinc k147_82 rfl (ls' := [_, _, _, _, _]) rfl ?_
              refine w_goto k147_85 ?_
              first
                | exact absurd h65 (by decide)
                | (rw [nI_1]
                   refine ih (s + 1) _ _ _ (by omega) ?_ ?_
                   · exact e1
                   · refine e2.keep (fun hf hs => ?_)
                     first
                       | exact y36 (by rw [hs]; exact hhin)
                       | (have hb := h53; have hx := y53; rw [hs] at hx; exact absurd hx.2 (by omega)))
                | (rw [nI_1]
                   refine ih (s + 1) _ _ _ (by omega) (fun x hx => by rw [hO2 x hx, e1 x hx]) ?_
                   have hok := okS_hold.mp (hb2.mp z73)
                   have hle := sub_le hhl hok.2
                   have hpo := sub_popc hhl hok.2 9
                   refine BI.take hok.1 ?_
                   first
                     | (have := y42 hok.1; omega)
                     | (have := y53; omega))
                | (rw [nI_1]
                   refine ih (s + 1) _ _ _ (by omega) (fun x hx => by rw [hO2 x hx, e1 x hx]) ?_
                   refine e2.keep (fun hf hs => ?_)
                   have hok : okS V M (M 0 1 &&& (511 ^^^ s)) := okS_hold.mpr ⟨hf, by rw [hs]; exact self_out hhl⟩
                   rw [hb2.mpr hok] at z73
                   cases z73)
            ·
              have z73 := bI_n0.mp h73
              refine w_iload_n k147_76 rfl ?_
              refine w_goto k147_77 ?_
              refine w_istore_n k147_81 (ls' := [_, _, _, _, _]) rfl ?_
              refine w_iinc k147_82 rfl (ls' := [_, _, _, _, _]) rfl ?_
              refine w_goto k147_85 ?_
              first
                | exact absurd h65 (by decide)
                | (rw [nI_1]
                   refine ih (s + 1) _ _ _ (by omega) ?_ ?_
                   · exact e1
                   · refine e2.keep (fun hf hs => ?_)
                     first
                       | exact y36 (by rw [hs]; exact hhin)
                       | (have hb := h53; have hx := y53; rw [hs] at hx; exact absurd hx.2 (by omega)))
                | (rw [nI_1]
                   refine ih (s + 1) _ _ _ (by omega) (fun x hx => by rw [hO2 x hx, e1 x hx]) ?_
                   have hok := okS_hold.mp (hb2.mp z73)
                   have hle := sub_le hhl hok.2
                   have hpo := sub_popc hhl hok.2 9
                   refine BI.take hok.1 ?_
                   first
                     | (have := y42 hok.1; omega)
                     | (have := y53; omega))
                | (rw [nI_1]
                   refine ih (s + 1) _ _ _ (by omega) (fun x hx => by rw [hO2 x hx, e1 x hx]) ?_
                   refine e2.keep (fun hf hs => ?_)
                   have hok : okS V M (M 0 1 &&& (511 ^^^ s)) := okS_hold.mpr ⟨hf, by rw [hs]; exact self_out hhl⟩
                   rw [hb2.mpr hok] at z73
                   cases z73)
        ·
          have y53 : popc s 9 < popc (hold V M) 9 := Nat.not_le.mp fun hh => h53 ((nI_leI (by omega) (by omega)).mpr hh)
          refine w_iconst k147_56 ?_
          refine w_goto k147_57 ?_
          refine w_istore k147_61 (ls' := [_, _, _, _, _]) rfl ?_
          refine w_iload k147_63 rfl ?_
          refine w_if_eq k147_65 (fun h65 => ?_) (fun h65 => ?_)
          ·
            refine w_iload_n k147_80 rfl ?_
            refine w_istore_n k147_81 (ls' := [_, _, _, _, _]) rfl ?_
            refine w_iinc k147_82 rfl (ls' := [_, _, _, _, _]) rfl ?_
            refine w_goto k147_85 ?_
            first
              | exact absurd h65 (by decide)
              | (rw [nI_1]
                 refine ih (s + 1) _ _ _ (by omega) ?_ ?_
                 · exact e1
                 · refine e2.keep (fun hf hs => ?_)
                   first
                     | exact y36 (by rw [hs]; exact hhin)
                     | (have hb := h53; have hx := y53; rw [hs] at hx; exact absurd hx.2 (by omega)))
              | (rw [nI_1]
                 refine ih (s + 1) _ _ _ (by omega) (fun x hx => by rw [hO2 x hx, e1 x hx]) ?_
                 have hok := okS_hold.mp (hb2.mp z73)
                 have hle := sub_le hhl hok.2
                 have hpo := sub_popc hhl hok.2 9
                 refine BI.take hok.1 ?_
                 first
                   | (have := y42 hok.1; omega)
                   | (have := y53; omega))
              | (rw [nI_1]
                 refine ih (s + 1) _ _ _ (by omega) (fun x hx => by rw [hO2 x hx, e1 x hx]) ?_
                 refine e2.keep (fun hf hs => ?_)
                 have hok : okS V M (M 0 1 &&& (511 ^^^ s)) := okS_hold.mpr ⟨hf, by rw [hs]; exact self_out hhl⟩
                 rw [hb2.mpr hok] at z73
                 cases z73)
          ·
            refine w_aload_n k147_68 rfl rfl ?_
            refine w_iload_n k147_69 rfl ?_
            refine w_vA k147_70 mt146 kd137 ⟨rfl, by decide⟩ [_] rfl rfl rfl (mp_allOut G (hVa.arr kd149 e1) hV (by rw [e1 148 (by omega)]; exact hA) hM hB (s := s) (by omega)) ?_
            rintro _ _ f2 _ ⟨b2, rfl, hb2, rfl, rfl, hO2⟩
            refine w_if_eq k147_73 (fun h73 => ?_) (fun h73 => ?_)
            ·
              have z73 := bI_0.mp h73
              refine w_iload_n k147_80 rfl ?_
              refine w_istore_n k147_81 (ls' := [_, _, _, _, _]) rfl ?_
              refine w_iinc k147_82 rfl (ls' := [_, _, _, _, _]) rfl ?_
              refine w_goto k147_85 ?_
              first
                | exact absurd h65 (by decide)
                | (rw [nI_1]
                   refine ih (s + 1) _ _ _ (by omega) ?_ ?_
                   · exact e1
                   · refine e2.keep (fun hf hs => ?_)
                     first
                       | exact y36 (by rw [hs]; exact hhin)
                       | (have hb := h53; have hx := y53; rw [hs] at hx; exact absurd hx.2 (by omega)))
                | (rw [nI_1]
                   refine ih (s + 1) _ _ _ (by omega) (fun x hx => by rw [hO2 x hx, e1 x hx]) ?_
                   have hok := okS_hold.mp (hb2.mp z73)
                   have hle := sub_le hhl hok.2
                   have hpo := sub_popc hhl hok.2 9
                   refine BI.take hok.1 ?_
                   first
                     | (have := y42 hok.1; omega)
                     | (have := y53; omega))
                | (rw [nI_1]
                   refine ih (s + 1) _ _ _ (by omega) (fun x hx => by rw [hO2 x hx, e1 x hx]) ?_
                   refine e2.keep (fun hf hs => ?_)
                   have hok : okS V M (M 0 1 &&& (511 ^^^ s)) := okS_hold.mpr ⟨hf, by rw [hs]; exact self_out hhl⟩
                   rw [hb2.mpr hok] at z73
                   cases z73)
            ·
              have z73 := bI_n0.mp h73
              refine w_iload_n k147_76 rfl ?_
              refine w_goto k147_77 ?_
              refine w_istore_n k147_81 (ls' := [_, _, _, _, _]) rfl ?_
              refine w_iinc k147_82 rfl (ls' := [_, _, _, _, _]) rfl ?_
              refine w_goto k147_85 ?_
              first
                | exact absurd h65 (by decide)
                | (rw [nI_1]
                   refine ih (s + 1) _ _ _ (by omega) ?_ ?_
                   · exact e1
                   · refine e2.keep (fun hf hs => ?_)
                     first
                       | exact y36 (by rw [hs]; exact hhin)
                       | (have hb := h53; have hx := y53; rw [hs] at hx; exact absurd hx.2 (by omega)))
                | (rw [nI_1]
                   refine ih (s + 1) _ _ _ (by omega) (fun x hx => by rw [hO2 x hx, e1 x hx]) ?_
                   have hok := okS_hold.mp (hb2.mp z73)
                   have hle := sub_le hhl hok.2
                   have hpo := sub_popc hhl hok.2 9
                   refine BI.take hok.1 ?_
                   first
                     | (have := y42 hok.1; omega)
                     | (have := y53; omega))
                | (rw [nI_1]
                   refine ih (s + 1) _ _ _ (by omega) (fun x hx => by rw [hO2 x hx, e1 x hx]) ?_
                   refine e2.keep (fun hf hs => ?_)
                   have hok : okS V M (M 0 1 &&& (511 ^^^ s)) := okS_hold.mpr ⟨hf, by rw [hs]; exact self_out hhl⟩
                   rw [hb2.mpr hok] at z73
                   cases z73)
set_option maxHeartbeats 1000000 in
theorem mp_bring {S : Scr} {d : Nat} {f : FF} {g : GG} {B : Nat} {tx : Nat → Nat} {tl : Nat} {V : Va} {M : Nat → Nat → Nat} {uN : Nat} {uL : Nat → Nat → Nat → Nat} {kN : Nat} {kL : Nat → Nat → Nat → Nat} {sn : Nat} {se : Nat → Nat → Nat} (G : GOm g) (hR : MRl f g tx tl V M uN uL kN kL sn se) (hW : StW B tx tl V M uN uL kN kL sn se) (h1 : 1 ≤ V.1) {w : Nat} (hw : w < 2) (hB : M 0 0 + 240 < 2 ^ 20) : Wp S (d + 5) 147 0 [some (.ref 137), some (.int (nI w)), none, none, none] [] 153 f g (MdQ f g (brV (brA V M (M 0 2) 0 0) w) tx tl V M uN uL kN kL sn se) := by
  obtain ⟨g0, hL, hVa, hA, hU, hK, hS⟩ := id hR
  have h200 := hL.2.1
  have hV := hW.2.1
  have hM := hW.2.2.1.1
  have h9 := hV.1
  have hm6 := hM.1
  have hmt := hM.2.1
  have hmi := hM.2.2.1
  refine w_iload_n k147_0 rfl ?_
  refine w_iconst k147_1 ?_
  refine w_iconst k147_2 ?_
  refine w_sI k147_3 (by decide) mt59 [_, _, _] rfl rfl rfl (mp_in _ _ _) ?_
  refine w_if_ne k147_6 (fun h6 => ?_) (fun h6 => absurd h6 (bI_n0.mpr (decide_eq_true ⟨(nI_leI (a := 0) (by omega) (by omega)).mpr (by omega), (nI_leI (b := 1) (by omega) (by omega)).mpr (by omega)⟩)))
  refine w_bipush k147_11 ?_
  refine w_istore_n k147_13 (ls' := [_, _, _, _, _]) rfl ?_
  refine w_iconst k147_14 ?_
  refine w_istore_n k147_15 (ls' := [_, _, _, _, _]) rfl ?_
  refine (ml_bring G hVa hV hA hM hB hw (M 0 1 + 1) 0 f (-4) none rfl (fun _ _ => rfl) ⟨fun _ => rfl, fun _ _ => rfl, fun _ hh => absurd hh (Nat.not_lt_zero _)⟩).mono ?_
  rintro _ _ f3 _ ⟨rfl, rfl, rfl, hO3⟩
  exact ⟨rfl, rfl, rfl, fun x hx => hO3 x (by omega), hR.t hO3⟩
set_option maxHeartbeats 1000000 in
theorem mp_bring0 {S : Scr} {d : Nat} {f : FF} {g : GG} {B : Nat} {tx : Nat → Nat} {tl : Nat} {V : Va} {M : Nat → Nat → Nat} {uN : Nat} {uL : Nat → Nat → Nat → Nat} {kN : Nat} {kL : Nat → Nat → Nat → Nat} {sn : Nat} {se : Nat → Nat → Nat} (G : GOm g) (hR : MRl f g tx tl V M uN uL kN kL sn se) (hW : StW B tx tl V M uN uL kN kL sn se) (h1 : 1 ≤ V.1) {x : Int32} (hb : ¬ (0 ≤ x ∧ x ≤ 1)) : Wp S (d + 5) 147 0 [some (.ref 137), some (.int x), none, none, none] [] 153 f g (MdQ f g (-1) tx tl V M uN uL kN kL sn se) := by
  obtain ⟨g0, hL, hVa, hA, hU, hK, hS⟩ := id hR
  have h200 := hL.2.1
  have hV := hW.2.1
  have hM := hW.2.2.1.1
  have h9 := hV.1
  have hm6 := hM.1
  have hmt := hM.2.1
  have hmi := hM.2.2.1
  refine w_iload_n k147_0 rfl ?_
  refine w_iconst k147_1 ?_
  refine w_iconst k147_2 ?_
  refine w_sI k147_3 (by decide) mt59 [_, _, _] rfl rfl rfl (mp_in _ _ _) ?_
  refine w_if_ne k147_6 (fun h6 => absurd (bI_0.mpr (decide_eq_false hb)) h6) (fun h6 => ?_)
  refine w_iconst k147_9 ?_
  refine w_iret k147_10 mt147 (.int) rfl (rfl) ?_
  exact MdQ.same hR
set_option maxHeartbeats 1000000 in
theorem mp_isMet {S : Scr} {d : Nat} {f : FF} {g : GG} {b i j : Nat} {M : Nat → Nat → Nat} (hb : kd KKl 153 b = some (20, 39)) (hA : MR1 (f b) M) (h6 : M 0 2 ≤ 6) (h1 : ∀ m, m < M 0 2 → M (m + 1) 1 < 2 ^ 31 ∧ M (m + 1) 2 < 2 ^ 31) (hi : i < M 0 2) (hj : j < M 0 2) : Wp S (d + 1) 150 0 [some (.ref b), some (.int (nI i)), some (.int (nI j))] [] 153 f g (Is (some (.int (bI (decide (M (j + 1) 1 = 1 ∧ M (i + 1) 1 = 1 ∧ M (i + 1) 2 = M (j + 1) 2))))) 153 f g) := by
  refine w_aload_n k150_0 rfl rfl ?_
  refine w_iload_n k150_1 rfl ?_
  refine w_iconst k150_2 ?_
  refine w_sI k150_3 (by decide) mt79 [_, _, _] rfl rfl rfl (mp_is (m := i) (w := 1) hb (by omega) (by omega)) ?_
  rw [hA.k (m := i) (k := 1) (by omega) (by omega)]
  refine w_iconst k150_6 ?_
  refine w_icmp_ne k150_7 (fun h7 => ?_) (fun h7 => ?_)
  ·
    have y1 : ¬ M (i + 1) 1 = 1 := fun hh => h7 (by rw [hh]; rfl)
    refine w_iconst k150_39 ?_
    refine w_iret k150_40 mt150 (.boolean) rfl (rfl) ?_
    first
      | (rw [decide_eq_true ⟨y2, y1, y3⟩]; exact ⟨rfl, rfl, rfl, rfl⟩)
      | (rw [decide_eq_false (fun hh => y1 hh.2.1)]; exact ⟨rfl, rfl, rfl, rfl⟩)
      | (rw [decide_eq_false (fun hh => y2 hh.1)]; exact ⟨rfl, rfl, rfl, rfl⟩)
      | (rw [decide_eq_false (fun hh => y3 hh.2.2)]; exact ⟨rfl, rfl, rfl, rfl⟩)
  ·
    have y1 : M (i + 1) 1 = 1 := (nI_eq (b := 1) (h1 i hi).1 (by omega)).mp h7
    refine w_aload_n k150_10 rfl rfl ?_
    refine w_iload_n k150_11 rfl ?_
    refine w_iconst k150_12 ?_
    refine w_sI k150_13 (by decide) mt79 [_, _, _] rfl rfl rfl (mp_is (m := j) (w := 1) hb (by omega) (by omega)) ?_
    rw [hA.k (m := j) (k := 1) (by omega) (by omega)]
    refine w_iconst k150_16 ?_
    refine w_icmp_ne k150_17 (fun h17 => ?_) (fun h17 => ?_)
    ·
      have y2 : ¬ M (j + 1) 1 = 1 := fun hh => h17 (by rw [hh]; rfl)
      refine w_iconst k150_39 ?_
      refine w_iret k150_40 mt150 (.boolean) rfl (rfl) ?_
      first
        | (rw [decide_eq_true ⟨y2, y1, y3⟩]; exact ⟨rfl, rfl, rfl, rfl⟩)
        | (rw [decide_eq_false (fun hh => y1 hh.2.1)]; exact ⟨rfl, rfl, rfl, rfl⟩)
        | (rw [decide_eq_false (fun hh => y2 hh.1)]; exact ⟨rfl, rfl, rfl, rfl⟩)
        | (rw [decide_eq_false (fun hh => y3 hh.2.2)]; exact ⟨rfl, rfl, rfl, rfl⟩)
    ·
      have y2 : M (j + 1) 1 = 1 := (nI_eq (b := 1) (h1 j hj).1 (by omega)).mp h17
      refine w_aload_n k150_20 rfl rfl ?_
      refine w_iload_n k150_21 rfl ?_
      refine w_iconst k150_22 ?_
      refine w_sI k150_23 (by decide) mt79 [_, _, _] rfl rfl rfl (mp_is (m := i) (w := 2) hb (by omega) (by omega)) ?_
      rw [hA.k (m := i) (k := 2) (by omega) (by omega)]
      refine w_aload_n k150_26 rfl rfl ?_
      refine w_iload_n k150_27 rfl ?_
      refine w_iconst k150_28 ?_
      refine w_sI k150_29 (by decide) mt79 [_, _, _] rfl rfl rfl (mp_is (m := j) (w := 2) hb (by omega) (by omega)) ?_
      rw [hA.k (m := j) (k := 2) (by omega) (by omega)]
      refine w_icmp_ne k150_32 (fun h32 => ?_) (fun h32 => ?_)
      ·
        have y3 : ¬ M (i + 1) 2 = M (j + 1) 2 := fun hh => h32 (by rw [hh])
        refine w_iconst k150_39 ?_
        refine w_iret k150_40 mt150 (.boolean) rfl (rfl) ?_
        first
          | (rw [decide_eq_true ⟨y2, y1, y3⟩]; exact ⟨rfl, rfl, rfl, rfl⟩)
          | (rw [decide_eq_false (fun hh => y1 hh.2.1)]; exact ⟨rfl, rfl, rfl, rfl⟩)
          | (rw [decide_eq_false (fun hh => y2 hh.1)]; exact ⟨rfl, rfl, rfl, rfl⟩)
          | (rw [decide_eq_false (fun hh => y3 hh.2.2)]; exact ⟨rfl, rfl, rfl, rfl⟩)
      ·
        have y3 : M (i + 1) 2 = M (j + 1) 2 := (nI_eq (h1 i hi).2 (h1 j hj).2).mp h32
        refine w_iconst k150_35 ?_
        refine w_goto k150_36 ?_
        refine w_iret k150_40 mt150 (.boolean) rfl (rfl) ?_
        first
          | (rw [decide_eq_true ⟨y2, y1, y3⟩]; exact ⟨rfl, rfl, rfl, rfl⟩)
          | (rw [decide_eq_false (fun hh => y1 hh.2.1)]; exact ⟨rfl, rfl, rfl, rfl⟩)
          | (rw [decide_eq_false (fun hh => y2 hh.1)]; exact ⟨rfl, rfl, rfl, rfl⟩)
          | (rw [decide_eq_false (fun hh => y3 hh.2.2)]; exact ⟨rfl, rfl, rfl, rfl⟩)
set_option maxHeartbeats 1000000 in
theorem ml_meet {S : Scr} {d : Nat} {f : FF} {g : GG} {i j : Nat} {V : Va} (G : GOm g) (hVa : MVa f V) (hV : VWf V) : ∀ (t k : Nat) (f1 : FF) (M : Nat → Nat → Nat), t + k = 241 → (∀ x, x ≠ 149 → f1 x = f x) → MR1 (f1 149) M → MoW V M → M 0 0 + t < 2 ^ 20 → i < M 0 2 → j < M 0 2 → Wp S (d + 4) 151 29 [some (.ref 137), some (.int (nI i)), some (.int (nI j)), some (.int (nI k))] [] 153 f1 g (fun v n' f' g' => v = some (.int (mtA V i j t k M)) ∧ n' = 153 ∧ g' = g ∧ ∀ x, x ≠ 149 → f' x = f x) := by
  have h9 := hV.1
  intro t
  induction t with
  | zero =>
    intro k f1 M e0 e1 e2 e3 e4 e5 e6
    refine w_iload_n k151_29 rfl ?_
    refine w_sipush k151_30 ?_
    refine w_icmp_gt k151_33 (fun h33 => ?_) (fun h33 => absurd ((nI_ltI (a := 240) (by omega) (by omega)).mpr (by omega)) h33)
    refine w_bipush k151_64 ?_
    refine w_iret k151_66 mt151 (.int) rfl (rfl) ?_
    exact ⟨rfl, rfl, rfl, e1⟩
  | succ t ih =>
    intro k f1 M e0 e1 e2 e3 e4 e5 e6
    refine w_iload_n k151_29 rfl ?_
    refine w_sipush k151_30 ?_
    refine w_icmp_gt k151_33 (fun h33 => absurd h33 (fun hh => absurd ((nI_ltI (a := 240) (by omega) (by omega)).mp hh) (by omega))) (fun h33 => ?_)
    refine w_aload_n k151_36 rfl rfl ?_
    refine w_getr k151_37 (k := 17) kd137 (by decide) (r137_17 G) ?_
    refine w_iload_n k151_40 rfl ?_
    refine w_iload_n k151_41 rfl ?_
    refine w_sI k151_42 (by decide) mt150 [_, _, _] rfl rfl rfl (mp_isMet kd149 e2 e3.1 (e3.l12 h9) e5 e6) ?_
    refine w_if_eq k151_45 (fun h45 => ?_) (fun h45 => ?_)
    ·
      have y1 := of_decide_eq_false (bI_0.mp h45)
      refine w_aload_n k151_50 rfl rfl ?_
      refine w_aload_n k151_51 rfl rfl ?_
      refine w_getr k151_52 (k := 17) kd137 (by decide) (r137_17 G) ?_
      refine w_vA k151_55 mt110 kd137 ⟨rfl, by decide⟩ [_] rfl rfl rfl (mp_passes G kd149 (hVa.arr kd149 e1) hV e2 e3) ?_
      rintro _ _ f2 _ ⟨rfl, rfl, rfl, hO2, hM2⟩
      refine w_iinc k151_58 rfl (ls' := [_, _, _, _]) rfl ?_
      refine w_goto k151_61 ?_
      rw [nI_1, show mtA V i j (t + 1) k M = mtA V i j t (k + 1) (mnA V M) from if_neg y1]
      exact ih (k + 1) f2 (mnA V M) (by omega) (fun x hx => by rw [hO2 x hx, e1 x hx]) hM2 (e3.min hV (by omega)) (by show M 0 0 + 1 + t < 2 ^ 20; omega) e5 e6
    ·
      have y1 := of_decide_eq_true (bI_n0.mp h45)
      refine w_iload_n k151_48 rfl ?_
      refine w_iret k151_49 mt151 (.int) rfl (rfl) ?_
      rw [show mtA V i j (t + 1) k M = nI k from if_pos y1]
      exact ⟨rfl, rfl, rfl, e1⟩
set_option maxHeartbeats 1000000 in
theorem mp_meet {S : Scr} {d : Nat} {f : FF} {g : GG} {B : Nat} {tx : Nat → Nat} {tl : Nat} {V : Va} {M : Nat → Nat → Nat} {uN : Nat} {uL : Nat → Nat → Nat → Nat} {kN : Nat} {kL : Nat → Nat → Nat → Nat} {sn : Nat} {se : Nat → Nat → Nat} (G : GOm g) (hR : MRl f g tx tl V M uN uL kN kL sn se) (hW : StW B tx tl V M uN uL kN kL sn se) (h1 : 1 ≤ V.1) {i j : Nat} (hi : i < M 0 2) (hj : j < M 0 2) (hij : ¬ i = j) (hB : M 0 0 + 241 < 2 ^ 20) : Wp S (d + 4) 151 0 [some (.ref 137), some (.int (nI i)), some (.int (nI j)), none] [] 153 f g (MdQ f g (mtA V i j 241 0 M) tx tl V M uN uL kN kL sn se) := by
  obtain ⟨g0, hL, hVa, hA, hU, hK, hS⟩ := id hR
  have h200 := hL.2.1
  have hV := hW.2.1
  have hM := hW.2.2.1.1
  have h9 := hV.1
  have hm6 := hM.1
  have hmt := hM.2.1
  have hmi := hM.2.2.1
  refine w_aload_n k151_0 rfl rfl ?_
  refine w_iload_n k151_1 rfl ?_
  refine w_vI k151_2 mt84 kd137 ⟨rfl, by decide⟩ [_] rfl rfl rfl (mp_isMessage G hA hm6 _) ?_
  rw [has_dec (by omega) (by omega)]
  refine w_if_eq k151_5 (fun h5 => absurd h5 (bI_n0.mpr (decide_eq_true hi))) (fun h5 => ?_)
  refine w_aload_n k151_8 rfl rfl ?_
  refine w_iload_n k151_9 rfl ?_
  refine w_vI k151_10 mt84 kd137 ⟨rfl, by decide⟩ [_] rfl rfl rfl (mp_isMessage G hA hm6 _) ?_
  rw [has_dec (by omega) (by omega)]
  refine w_if_eq k151_13 (fun h13 => absurd h13 (bI_n0.mpr (decide_eq_true hj))) (fun h13 => ?_)
  refine w_iload_n k151_16 rfl ?_
  refine w_iload_n k151_17 rfl ?_
  refine w_icmp_ne k151_18 (fun h18 => ?_) (fun h18 => absurd h18 (fun hh => hij ((nI_eq (by omega) (by omega)).mp hh)))
  refine w_aload_n k151_23 rfl rfl ?_
  refine w_vA k151_24 mt137 kd137 ⟨rfl, by decide⟩ [] rfl rfl rfl (mp_copyNow G) ?_
  rintro _ _ f1 _ ⟨rfl, rfl, rfl, hO, hq⟩
  have hT1 : MR1 (f1 149) M := hA.eq hm6 hq
  refine w_iconst k151_27 ?_
  refine w_istore_n k151_28 (ls' := [_, _, _, _]) rfl ?_
  refine (ml_meet (i := i) (j := j) G (hVa.arr kd149 hO) hV 241 0 f1 M rfl (fun _ _ => rfl) hT1 hM hB hi hj).mono ?_
  rintro _ _ f3 _ ⟨rfl, rfl, rfl, hO3⟩
  have hO4 : ∀ x, x ≠ 149 → f3 x = f x := fun x hx => by rw [hO3 x hx, hO x hx]
  exact ⟨rfl, rfl, rfl, fun x hx => hO4 x (by omega), hR.t hO4⟩
set_option maxHeartbeats 1000000 in
theorem mp_meet0 {S : Scr} {d : Nat} {f : FF} {g : GG} {B : Nat} {tx : Nat → Nat} {tl : Nat} {V : Va} {M : Nat → Nat → Nat} {uN : Nat} {uL : Nat → Nat → Nat → Nat} {kN : Nat} {kL : Nat → Nat → Nat → Nat} {sn : Nat} {se : Nat → Nat → Nat} (G : GOm g) (hR : MRl f g tx tl V M uN uL kN kL sn se) (hW : StW B tx tl V M uN uL kN kL sn se) (h1 : 1 ≤ V.1) {x y : Int32} (hb : ¬ ((0 ≤ x ∧ x < nI (M 0 2)) ∧ (0 ≤ y ∧ y < nI (M 0 2)) ∧ ¬ x = y)) : Wp S (d + 4) 151 0 [some (.ref 137), some (.int x), some (.int y), none] [] 153 f g (MdQ f g (-1) tx tl V M uN uL kN kL sn se) := by
  obtain ⟨g0, hL, hVa, hA, hU, hK, hS⟩ := id hR
  have h200 := hL.2.1
  have hV := hW.2.1
  have hM := hW.2.2.1.1
  have h9 := hV.1
  have hm6 := hM.1
  have hmt := hM.2.1
  have hmi := hM.2.2.1
  refine w_aload_n k151_0 rfl rfl ?_
  refine w_iload_n k151_1 rfl ?_
  refine w_vI k151_2 mt84 kd137 ⟨rfl, by decide⟩ [_] rfl rfl rfl (mp_isMessage G hA hm6 _) ?_
  refine w_if_eq k151_5 (fun h5 => ?_) (fun h5 => ?_)
  ·
    refine w_iconst k151_21 ?_
    refine w_iret k151_22 mt151 (.int) rfl (rfl) ?_
    exact MdQ.same hR
  ·
    have x5 := of_decide_eq_true (bI_n0.mp h5)
    refine w_aload_n k151_8 rfl rfl ?_
    refine w_iload_n k151_9 rfl ?_
    refine w_vI k151_10 mt84 kd137 ⟨rfl, by decide⟩ [_] rfl rfl rfl (mp_isMessage G hA hm6 _) ?_
    refine w_if_eq k151_13 (fun h13 => ?_) (fun h13 => ?_)
    ·
      refine w_iconst k151_21 ?_
      refine w_iret k151_22 mt151 (.int) rfl (rfl) ?_
      exact MdQ.same hR
    ·
      have x13 := of_decide_eq_true (bI_n0.mp h13)
      refine w_iload_n k151_16 rfl ?_
      refine w_iload_n k151_17 rfl ?_
      refine w_icmp_ne k151_18 (fun h18 => absurd (Classical.byContradiction fun hh => hb ⟨x5, x13, hh⟩) h18) (fun h18 => ?_)
      refine w_iconst k151_21 ?_
      refine w_iret k151_22 mt151 (.int) rfl (rfl) ?_
      exact MdQ.same hR
