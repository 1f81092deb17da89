/-! SPECS, 21: pass, rain, send, alter, undo, keep, back -/
theorem mu_at {μ : Nat → Nat} {k v : Nat} : mu μ k v k = v := if_pos rfl
theorem mu_ne {μ : Nat → Nat} {k v j : Nat} (h : j ≠ k) : mu μ k v j = μ j := if_neg h
theorem msB_W {V : Va} (hV : VWf V) {t I : Nat} {μ : Nat → Nat} (ht : t < 2 ^ 30) (h0 : μ 0 < 2 ^ 30) (h1 : μ 1 ≤ 2) (h2 : μ 2 < V.1) (h3 : RowOk (μ 3)) (h4 : μ 4 ≤ 20) (h5 : μ 5 < 2 ^ 30) (h6 : μ 1 = 0 → t + 1 ≤ μ 0 ∧ μ 4 = 0) (h7 : μ 1 = 2 → μ 4 = 0 ∧ V.2.2.2 (μ 2) = μ 2) (h8 : μ 4 ≤ V.2.2.1 (μ 2)) : MsW V (t + 1) (msB V t I μ) := by
  have hp := hV.2 _ h2
  have hc : ∀ ν : Nat → Nat, ν 0 = μ 0 → ν 1 = μ 1 → ν 2 = μ 2 → ν 3 = μ 3 → ν 5 = μ 5 → ν 4 ≤ V.2.2.1 (μ 2) → μ 1 = 1 → MsW V (t + 1) (msC V t ν) := by
    intro ν e0 e1 e2 e3 e5 e4 m1
    have m0 : ¬ ν 1 = 0 := by omega
    have m2 : ¬ ν 1 = 2 := by omega
    unfold msC
    by_cases z0 : ν 4 = 0
    · rw [if_pos z0]
      exact ⟨by rw [e0]; exact h0, by omega, by omega, by rw [e3]; exact h3, by omega, by rw [e5]; exact h5, fun hh => absurd hh m0, fun hh => absurd hh m2, by rw [e2]; exact e4⟩
    · rw [if_neg z0]
      by_cases z1 : ν 4 = 1
      · rw [if_pos z1]
        unfold msK
        have f2 : mu ν 4 0 2 = μ 2 := e2
        have f3 : mu ν 4 0 3 = μ 3 := e3
        rw [f2, f3]
        by_cases zs : V.2.2.2 (μ 2) = μ 2
        · rw [if_pos zs]
          refine ⟨?_, Nat.le_refl 2, ?_, ?_, ?_, ?_, fun hh => ?_, fun _ => ⟨rfl, ?_⟩, ?_⟩
          · show ν 0 < 2 ^ 30
            omega
          · show ν 2 < V.1
            omega
          · show RowOk (kn (V.2.1 (μ 2)) (μ 3))
            exact kn_ok h3
          · show 0 ≤ 20
            omega
          · exact ht
          · exact absurd (show (2 : Nat) = 0 from hh) (by decide)
          · show V.2.2.2 (ν 2) = ν 2
            rw [e2]
            exact zs
          · exact Nat.zero_le _
        · rw [if_neg zs]
          refine ⟨?_, ?_, ?_, ?_, ?_, ?_, fun hh => ?_, fun hh => ?_, ?_⟩
          · show ν 0 < 2 ^ 30
            omega
          · show ν 1 ≤ 2
            omega
          · show V.2.2.2 (μ 2) < V.1
            exact hV.on h2
          · show RowOk (kn (V.2.1 (μ 2)) (μ 3))
            exact kn_ok h3
          · show 0 ≤ 20
            omega
          · show ν 5 < 2 ^ 30
            omega
          · exact absurd (show ν 1 = 0 from hh) m0
          · exact absurd (show ν 1 = 2 from hh) m2
          · exact Nat.zero_le _
      · rw [if_neg z1]
        refine ⟨?_, ?_, ?_, ?_, ?_, ?_, fun hh => ?_, fun hh => ?_, ?_⟩
        · show ν 0 < 2 ^ 30
          omega
        · show ν 1 ≤ 2
          omega
        · show ν 2 < V.1
          omega
        · show RowOk (ν 3)
          rw [e3]
          exact h3
        · show ν 4 - 1 ≤ 20
          omega
        · show ν 5 < 2 ^ 30
          omega
        · exact absurd (show ν 1 = 0 from hh) m0
        · exact absurd (show ν 1 = 2 from hh) m2
        · show ν 4 - 1 ≤ V.2.2.1 (ν 2)
          rw [e2]
          omega
  unfold msB
  by_cases m1 : μ 1 = 1
  · rw [if_neg (fun hh => hh m1)]
    split
    · exact hc _ rfl rfl rfl rfl rfl (Nat.le_refl _) m1
    · exact hc _ rfl rfl rfl rfl rfl h8 m1
  · rw [if_pos m1]
    exact ⟨h0, h1, h2, h3, h4, h5, h6, h7, h8⟩
theorem msA_W {V : Va} (hV : VWf V) {t I : Nat} {μ : Nat → Nat} (h : MsW V t μ) (ht : t < 2 ^ 30) : MsW V (t + 1) (msA V t I μ) := by
  obtain ⟨h0, h1, h2, h3, h4, h5, h6, h7, h8⟩ := h
  unfold msA
  by_cases hb : μ 1 = 0 ∧ μ 0 = t
  · rw [if_pos hb]
    exact msB_W hV ht h0 (show (1 : Nat) ≤ 2 by decide) h2 h3 h4 h5 (fun hh => absurd (show (1 : Nat) = 0 from hh) (by decide)) (fun hh => absurd (show (1 : Nat) = 2 from hh) (by decide)) h8
  · rw [if_neg hb]
    exact msB_W hV ht h0 h1 h2 h3 h4 h5 (fun hh => by have := h6 hh; have : μ 0 ≠ t := fun h' => hb ⟨hh, h'⟩; omega) h7 h8
theorem MoW.min {V : Va} (hV : VWf V) {M : Nat → Nat → Nat} (h : MoW V M) (ht : M 0 0 + 1 < 2 ^ 20) : MoW V (mnA V M) :=
  ⟨h.1, ht, h.2.2.1, fun m hm => msA_W hV (h.2.2.2 m hm) (Nat.lt_trans (show M 0 0 < 2 ^ 20 by omega) (by decide))⟩
/-- t minutes -/
def itM (V : Va) : Nat → (Nat → Nat → Nat) → Nat → Nat → Nat
  | 0, M => M
  | t + 1, M => itM V t (mnA V M)
theorem itM_0 {V : Va} : ∀ t M, itM V t M 0 0 = M 0 0 + t := by
  intro t
  induction t with
  | zero => intro M; rfl
  | succ t ih =>
    intro M
    show itM V t (mnA V M) 0 0 = _
    rw [ih]
    show M 0 0 + 1 + t = _
    omega
theorem itM_W {V : Va} (hV : VWf V) : ∀ t M, MoW V M → M 0 0 + t < 2 ^ 20 → MoW V (itM V t M) := by
  intro t
  induction t with
  | zero => intro M h _; exact h
  | succ t ih => intro M h ht; exact ih _ (h.min hV (by omega)) (by show M 0 0 + 1 + t < 2 ^ 20; omega)
theorem PiR.g {n : Nat} {f : FF} {g g' : GG} {p q C sz : Nat} {b : Nat → Nat} {L : Nat → Nat → Nat → Nat} (h : PiR n f g p q C b sz L) (hn : 137 ≤ n) (hp : p ≠ 40) (hq : q ≠ 40) (ho : ∀ x, x ≠ 40 → g' x = g x) : PiR n f g' p q C b sz L :=
  ⟨⟨h.1.1, h.1.2.1, by rw [ho p hp]; exact h.1.2.2.1, h.1.2.2.2⟩, fun i hi => ⟨by rw [ho q hq]; exact (h.2.1 i hi).1, (h.2.1 i hi).2.g (kc40 hn) ho⟩, h.2.2.1, h.2.2.2.1, h.2.2.2.2.1, h.2.2.2.2.2⟩
/-- a call's end, without an answer -/
def CQv (n : Nat) (f : FF) (g : GG) (tx : Nat → Nat) (tl : Nat) (V : Va) (M : Nat → Nat → Nat) (uN : Nat) (uL : Nat → Nat → Nat → Nat) (kN : Nat) (kL : Nat → Nat → Nat → Nat) (sn : Nat) (se : Nat → Nat → Nat) : Option Value → Nat → FF → GG → Prop := fun v n' f' g' => v = none ∧ n' = n ∧ (∀ x, 137 ≤ x → f' x = f x) ∧ (∀ x, x ≠ 40 → g' x = g x) ∧ CR n f' g' tx tl V M uN uL kN kL sn se
theorem CR.mo {n B : Nat} {f : FF} {g : GG} {tx : Nat → Nat} {tl : Nat} {V : Va} {M : Nat → Nat → Nat} {uN : Nat} {uL : Nat → Nat → Nat → Nat} {kN : Nat} {kL : Nat → Nat → Nat → Nat} {sn : Nat} {se : Nat → Nat → Nat} (h : CR n f g tx tl V M uN uL kN kL sn se) (hW : StW B tx tl V M uN uL kN kL sn se) {f' : FF} {M2 : Nat → Nat → Nat} (ho : OffM f f' 21) (h2 : CMo f' 21 M2) : CR n f' g tx tl V M2 uN uL kN kL sn se := by
  obtain ⟨g0, g1, g2, g3, ⟨b, g4, hb⟩, g5, g6⟩ := h
  refine ⟨g0, g1.eq (fun x hx => ho x (by omega)), g2.off (ho _ (by omega)) (ho _ (by omega)) (ho _ (by omega)) (ho _ (by omega)), h2, ⟨b, ?_, hb⟩, ?_, ?_⟩
  · exact g4.eq (fun i hi => (hW.2.2.2.1 i hi).1.1) (ho _ (by omega)) (fun i hi x hx hy => by have := hb.in hi; exact ho x (by omega))
  · exact g5.eq (fun i hi => (hW.2.2.2.2.1 i hi).1.1) (ho _ (by omega)) (fun i hi x hx hy => by have hx : 115 + 9 * i ≤ x := hx; exact ho x (by omega))
  · exact ⟨by rw [ho 133 (by omega)]; exact g6.1, g6.2.1, fun i hi => by rw [ho 134 (by omega), ho 135 (by omega), ho 136 (by omega)]; exact g6.2.2 i hi⟩
theorem StW.put {B : Nat} {tx : Nat → Nat} {tl : Nat} {V : Va} {M : Nat → Nat → Nat} {uN : Nat} {uL : Nat → Nat → Nat → Nat} {kN : Nat} {kL : Nat → Nat → Nat → Nat} {sn : Nat} {se : Nat → Nat → Nat} (h : StW B tx tl V M uN uL kN kL sn se) (h8 : uN ≤ 8) : StW B tx tl V M (if uN < 8 then uN + 1 else 8) (putL 8 uN uL M) kN kL sn se := by
  refine ⟨h.1, h.2.1, h.2.2.1, fun i hi => ?_, h.2.2.2.2⟩
  unfold putL
  by_cases hz : uN < 8
  · rw [if_pos hz] at hi ⊢
    show MoW V (if i = uN then M else uL i) ∧ (if i = uN then M else uL i) 0 0 ≤ B
    by_cases hu : i = uN
    · rw [if_pos hu]
      exact h.2.2.1
    · rw [if_neg hu]
      exact h.2.2.2.1 i (by omega)
  · rw [if_neg hz] at hi ⊢
    show MoW V (if i + 1 < 8 then uL (i + 1) else M) ∧ (if i + 1 < 8 then uL (i + 1) else M) 0 0 ≤ B
    by_cases hu : i + 1 < 8
    · rw [if_pos hu]
      exact h.2.2.2.1 (i + 1) (by omega)
    · rw [if_neg hu]
      exact h.2.2.1
theorem StW.mo {B : Nat} {tx : Nat → Nat} {tl : Nat} {V : Va} {M : Nat → Nat → Nat} {uN : Nat} {uL : Nat → Nat → Nat → Nat} {kN : Nat} {kL : Nat → Nat → Nat → Nat} {sn : Nat} {se : Nat → Nat → Nat} (h : StW B tx tl V M uN uL kN kL sn se) {M2 : Nat → Nat → Nat} (h2 : MoW V M2) (h3 : M2 0 0 ≤ B) : StW B tx tl V M2 uN uL kN kL sn se := ⟨h.1, h.2.1, ⟨h2, h3⟩, h.2.2.2⟩
theorem StW.le {B B2 : Nat} {tx : Nat → Nat} {tl : Nat} {V : Va} {M : Nat → Nat → Nat} {uN : Nat} {uL : Nat → Nat → Nat → Nat} {kN : Nat} {kL : Nat → Nat → Nat → Nat} {sn : Nat} {se : Nat → Nat → Nat} (h : StW B tx tl V M uN uL kN kL sn se) (hb : B ≤ B2) : StW B2 tx tl V M uN uL kN kL sn se := ⟨h.1, h.2.1, ⟨h.2.2.1.1, Nat.le_trans h.2.2.1.2 hb⟩, fun i hi => ⟨(h.2.2.2.1 i hi).1, Nat.le_trans (h.2.2.2.1 i hi).2 hb⟩, fun i hi => ⟨(h.2.2.2.2.1 i hi).1, Nat.le_trans (h.2.2.2.2.1 i hi).2 hb⟩, h.2.2.2.2.2⟩
set_option maxHeartbeats 1000000 in
theorem sp_rem {S : Scr} {d : Nat} {f : FF} {g : GG} {n B : Nat} {tx : Nat → Nat} {tl : Nat} {V : Va} {M : Nat → Nat → Nat} {uN : Nat} {uL : Nat → Nat → Nat → Nat} {kN : Nat} {kL : Nat → Nat → Nat → Nat} {sn : Nat} {se : Nat → Nat → Nat} (hn : 137 ≤ n) (G : GOk g) (hR : CR n f g tx tl V M uN uL kN kL sn se) (hW : StW B tx tl V M uN uL kN kL sn se) : Wp S (d + 2) 100 0 [some (.ref 39), some (.ref 21), none] [] n f g (CQv n f g tx tl V M (if uN < 8 then uN + 1 else 8) (putL 8 uN uL M) kN kL sn se) := by
  have hM6 := hW.2.2.1.1.1
  obtain ⟨h0, h1, h2, h3, ⟨b, h4, hbu⟩, h5, h6⟩ := hR
  refine (sp_put h4 (fun i hi => (hW.2.2.2.1 i hi).1.1) (mo21 hn G) h3 hM6 (fun i hi => by have := hbu.in hi; omega) (fun i hi => by have := hbu.in hi; omega)).mono ?_
  rintro _ n1 f1 g1 ⟨rfl, hn1, hg, hO, b', hP, hbb⟩
  have hn2 := hn1.symm
  subst hn2
  have hbu2 : bU b' := fun i hi => by
    obtain ⟨j, hj, e⟩ := hbb i hi
    rw [e]
    exact hbu j hj
  have hf : ∀ x, x < 39 ∨ 113 ≤ x → f1 x = f x := fun x hx => hO x (by omega) (fun i hi => by have := hbu.in hi; omega)
  refine ⟨rfl, rfl, fun x hx => hf x (by omega), hg, h0.g hg, ?_, ?_, ?_, ⟨b', hP, hbu2⟩, ?_, ?_⟩
  · exact h1.eq (fun x hx => hf x (by omega))
  · exact h2.off (hf _ (by omega)) (hf _ (by omega)) (hf _ (by omega)) (hf _ (by omega))
  · exact h3.eq hM6 (fun x hx hy => hf x (by omega))
  · exact (h5.eq (fun i hi => (hW.2.2.2.2.1 i hi).1.1) (hf _ (by omega)) (fun i hi x hx hy => by have hx : 115 + 9 * i ≤ x := hx; exact hf x (by omega))).g hn (by decide) (by decide) hg
  · exact ⟨by rw [hf 133 (by omega)]; exact h6.1, h6.2.1, fun i hi => by rw [hf 134 (by omega), hf 135 (by omega), hf 136 (by omega)]; exact h6.2.2 i hi⟩
set_option maxHeartbeats 1000000 in
theorem lp_pass {S : Scr} {d : Nat} {f : FF} {g : GG} {n k : Nat} {V : Va} (hn : 137 ≤ n) (G : GOk g) (hC : CVa f 17 V) (hV : VWf V) (hk : k ≤ 60) : ∀ (t j : Nat) (f1 : FF) (M : Nat → Nat → Nat), t + j = k → OffM f f1 21 → CMo f1 21 M → MoW V M → M 0 0 + t < 2 ^ 20 → Wp S (d + 6) 106 25 [some (.ref 0), some (.int (nI k)), some (.int (nI j))] [] n f1 g (fun v n' f' g' => v = some (.int (nI (howAre (itM V t M) 2 (itM V t M 0 2) 0 0))) ∧ n' = n ∧ g' = g ∧ OffM f f' 21 ∧ CMo f' 21 (itM V t M)) := by
  intro t
  induction t with
  | zero =>
    intro j f1 M e0 e1 e2 e3 e4
    refine w_iload_n k106_25 rfl ?_
    refine w_iload_n k106_26 rfl ?_
    refine w_icmp_ge k106_27 (fun h27 => ?_) (fun h27 => absurd (nI_le (by omega) (by omega)) h27)
    refine w_aload_n k106_47 rfl rfl ?_
    refine w_getr k106_48 (k := 3) (kc0 hn) (by decide) (r0_3 G) ?_
    refine w_iconst k106_51 ?_
    have h9 := hV.1
    refine w_vI k106_52 mt105 (kc21 hn) ⟨rfl, by decide⟩ [_] rfl rfl rfl (sp_howAre (mo21 hn G) e2 e3.1 (fun m hm => (e3.l12 h9 m hm).1) 2 (by decide)) ?_
    refine w_iret k106_55 mt106 (.int) rfl (rfl) ?_
    exact ⟨rfl, rfl, rfl, e1, e2⟩
  | succ t ih =>
    intro j f1 M e0 e1 e2 e3 e4
    refine w_iload_n k106_25 rfl ?_
    refine w_iload_n k106_26 rfl ?_
    refine w_icmp_ge k106_27 (fun h27 => absurd h27 (nI_ge (by omega) (by omega))) (fun h27 => ?_)
    refine w_aload_n k106_30 rfl rfl ?_
    refine w_getr k106_31 (k := 3) (kc0 hn) (by decide) (r0_3 G) ?_
    refine w_aload_n k106_34 rfl rfl ?_
    refine w_getr k106_35 (k := 2) (kc0 hn) (by decide) (r0_2 G) ?_
    refine w_vA k106_38 mt104 (kc21 hn) ⟨rfl, by decide⟩ [_] rfl rfl rfl (sp_minute (mo21 hn G) e2 (va17 hn G) (hC.mo e1 (by omega)) hV e3 (by omega)) ?_
    rintro _ _ f2 _ ⟨rfl, rfl, rfl, hO, hM2⟩
    refine w_iinc k106_41 rfl (ls' := [_, _, _]) rfl ?_
    refine w_goto k106_44 ?_
    rw [nI_1]
    exact ih (j + 1) f2 (mnA V M) (by omega) (e1.tr hO) hM2 (e3.min hV (by omega)) (by show M 0 0 + 1 + t < 2 ^ 20; omega)
set_option maxHeartbeats 1000000 in
theorem sp_pass {S : Scr} {d : Nat} {f : FF} {g : GG} {n B : Nat} {tx : Nat → Nat} {tl : Nat} {V : Va} {M : Nat → Nat → Nat} {uN : Nat} {uL : Nat → Nat → Nat → Nat} {kN : Nat} {kL : Nat → Nat → Nat → Nat} {sn : Nat} {se : Nat → Nat → Nat} (hn : 137 ≤ n) (G : GOk g) (hR : CR n f g tx tl V M uN uL kN kL sn se) (hW : StW B tx tl V M uN uL kN kL sn se) {k : Nat} (hk1 : 1 ≤ k) (hk : k ≤ 60) (hB : M 0 0 + 60 < 2 ^ 20) : Wp S (d + 6) 106 0 [some (.ref 0), some (.int (nI k)), none] [] n f g (CQ n f g (nI (howAre (itM V k M) 2 (itM V k M 0 2) 0 0)) tx tl V (itM V k M) (if uN < 8 then uN + 1 else 8) (putL 8 uN uL M) kN kL sn se) := by
  have h200 := hR.2.1.2.1
  have hC := hR.2.2.1
  have hA := hR.2.2.2.1
  have hK := hR.2.2.2.2.2.1
  have hS := hR.2.2.2.2.2.2
  have hV := hW.2.1
  have hM := hW.2.2.1.1
  have h9 := hV.1
  have hm6 := hM.1
  have hmt := hM.2.1
  have hmi := hM.2.2.1
  refine w_iload_n k106_0 rfl ?_
  refine w_iconst k106_1 ?_
  refine w_bipush k106_2 ?_
  refine w_sI k106_4 (by decide) mt22 [_, _, _] rfl rfl rfl (sp_isBetween _ _ _) ?_
  refine w_if_ne k106_7 (fun h7 => ?_) (fun h7 => absurd h7 (bI_n0.mpr (decide_eq_true ⟨(nI_leI (a := 1) (by omega) (by omega)).mpr (by omega), (nI_leI (b := 60) (by omega) (by omega)).mpr (by omega)⟩)))
  refine w_aload_n k106_12 rfl rfl ?_
  refine w_getr k106_13 (k := 5) (kc0 hn) (by decide) (r0_5 G) ?_
  refine w_aload_n k106_16 rfl rfl ?_
  refine w_getr k106_17 (k := 3) (kc0 hn) (by decide) (r0_3 G) ?_
  refine w_vA k106_20 mt100 (kc39 hn) ⟨rfl, by decide⟩ [_] rfl rfl rfl (sp_rem hn G hR hW) ?_
  rintro _ n1 f1 g1 ⟨rfl, hn1, hF1, hG1, hR1⟩
  have hn2 := hn1.symm
  subst hn2
  have hu8 : uN ≤ 8 := by
    obtain ⟨_, _, _, _, ⟨b, h4, _⟩, _⟩ := hR
    exact h4.2.2.2.2.1
  have hW1 := hW.put hu8
  have hC1 := hR1.2.2.1
  have hA1 := hR1.2.2.2.1
  have G := hR1.1
  refine w_iconst k106_23 ?_
  refine w_istore_n k106_24 (ls' := [_, _, _]) rfl ?_
  refine (lp_pass hn G hC1 hV hk k 0 f1 M (by omega) OffM.rf hA1 hM (by omega)).mono ?_
  rintro _ _ f2 _ ⟨rfl, rfl, rfl, hO, hM2⟩
  exact ⟨rfl, rfl, fun x hx => by rw [hO x (by omega), hF1 x hx], hG1, hR1.mo hW1 hO hM2⟩
set_option maxHeartbeats 1000000 in
theorem sp_pass0 {S : Scr} {d : Nat} {f : FF} {g : GG} {n B : Nat} {tx : Nat → Nat} {tl : Nat} {V : Va} {M : Nat → Nat → Nat} {uN : Nat} {uL : Nat → Nat → Nat → Nat} {kN : Nat} {kL : Nat → Nat → Nat → Nat} {sn : Nat} {se : Nat → Nat → Nat} (hn : 137 ≤ n) (G : GOk g) (hR : CR n f g tx tl V M uN uL kN kL sn se) (hW : StW B tx tl V M uN uL kN kL sn se) {x : Int32} (hb : ¬ (1 ≤ x ∧ x ≤ 60)) : Wp S (d + 6) 106 0 [some (.ref 0), some (.int x), none] [] n f g (CQ n f g (-1) tx tl V M uN uL kN kL sn se) := by
  have h200 := hR.2.1.2.1
  have hC := hR.2.2.1
  have hA := hR.2.2.2.1
  have hK := hR.2.2.2.2.2.1
  have hS := hR.2.2.2.2.2.2
  have hV := hW.2.1
  have hM := hW.2.2.1.1
  have h9 := hV.1
  have hm6 := hM.1
  have hmt := hM.2.1
  have hmi := hM.2.2.1
  refine w_iload_n k106_0 rfl ?_
  refine w_iconst k106_1 ?_
  refine w_bipush k106_2 ?_
  refine w_sI k106_4 (by decide) mt22 [_, _, _] rfl rfl rfl (sp_isBetween _ _ _) ?_
  refine w_if_ne k106_7 (fun h7 => absurd (bI_0.mpr (decide_eq_false hb)) h7) (fun h7 => ?_)
  refine w_iconst k106_10 ?_
  refine w_iret k106_11 mt106 (.int) rfl (rfl) ?_
  exact CQ.same hR
set_option maxHeartbeats 1000000 in
theorem sp_rain {S : Scr} {d : Nat} {f : FF} {g : GG} {n B : Nat} {tx : Nat → Nat} {tl : Nat} {V : Va} {M : Nat → Nat → Nat} {uN : Nat} {uL : Nat → Nat → Nat → Nat} {kN : Nat} {kL : Nat → Nat → Nat → Nat} {sn : Nat} {se : Nat → Nat → Nat} (hn : 137 ≤ n) (G : GOk g) (hR : CR n f g tx tl V M uN uL kN kL sn se) (hW : StW B tx tl V M uN uL kN kL sn se) {c : Nat} (hc : c < V.1) : Wp S (d + 3) 113 0 [some (.ref 0), some (.int (nI c))] [] n f g (CQ n f g (nI (if (M 0 1 ^^^ 2 ^ c).testBit c = true then 1 else 0)) tx tl V (mset0 M 1 (M 0 1 ^^^ 2 ^ c)) (if uN < 8 then uN + 1 else 8) (putL 8 uN uL M) kN kL sn se) := by
  have h200 := hR.2.1.2.1
  have hC := hR.2.2.1
  have hA := hR.2.2.2.1
  have hK := hR.2.2.2.2.2.1
  have hS := hR.2.2.2.2.2.2
  have hV := hW.2.1
  have hM := hW.2.2.1.1
  have h9 := hV.1
  have hm6 := hM.1
  have hmt := hM.2.1
  have hmi := hM.2.2.1
  refine w_aload_n k113_0 rfl rfl ?_
  refine w_getr k113_1 (k := 2) (kc0 hn) (by decide) (r0_2 G) ?_
  refine w_iload_n k113_4 rfl ?_
  refine w_vI k113_5 mt29 (kc17 hn) ⟨rfl, by decide⟩ [_] rfl rfl rfl (sp_Vhas (va17 hn G) hC h9 _) ?_
  rw [has_dec (by omega) (by omega)]
  refine w_if_ne k113_8 (fun h8 => ?_) (fun h8 => absurd h8 (bI_n0.mpr (decide_eq_true hc)))
  refine w_aload_n k113_13 rfl rfl ?_
  refine w_getr k113_14 (k := 5) (kc0 hn) (by decide) (r0_5 G) ?_
  refine w_aload_n k113_17 rfl rfl ?_
  refine w_getr k113_18 (k := 3) (kc0 hn) (by decide) (r0_3 G) ?_
  refine w_vA k113_21 mt100 (kc39 hn) ⟨rfl, by decide⟩ [_] rfl rfl rfl (sp_rem hn G hR hW) ?_
  rintro _ n1 f1 g1 ⟨rfl, hn1, hF1, hG1, hR1⟩
  have hn2 := hn1.symm
  subst hn2
  have hu8 : uN ≤ 8 := by
    obtain ⟨_, _, _, _, ⟨b, h4, _⟩, _⟩ := hR
    exact h4.2.2.2.2.1
  have hW1 := hW.put hu8
  have hC1 := hR1.2.2.1
  have hA1 := hR1.2.2.2.1
  have G := hR1.1
  refine w_aload_n k113_24 rfl rfl ?_
  refine w_getr k113_25 (k := 3) (kc0 hn) (by decide) (r0_3 G) ?_
  refine w_iload_n k113_28 rfl ?_
  refine w_vA k113_29 mt36 (kc21 hn) ⟨rfl, by decide⟩ [_] rfl rfl rfl (sp_goIn (mo21 hn G) hA1 hmi (by omega)) ?_
  rintro _ _ f2 _ ⟨rfl, rfl, rfl, hO, hM2⟩
  have hxl : M 0 1 ^^^ 2 ^ c < 512 := xor_b hmi (by omega)
  refine w_aload_n k113_32 rfl rfl ?_
  refine w_getr k113_33 (k := 3) (kc0 hn) (by decide) (r0_3 G) ?_
  refine w_iload_n k113_36 rfl ?_
  refine w_vI k113_37 mt35 (kc21 hn) ⟨rfl, by decide⟩ [_] rfl rfl rfl (sp_isIndoors (mo21 hn G) hM2 (show M 0 1 ^^^ 2 ^ c < 512 from hxl) (by omega)) ?_
  refine w_if_eq k113_40 (fun h40 => ?_) (fun h40 => ?_)
  ·
    have hz : ¬ (M 0 1 ^^^ 2 ^ c).testBit c = true := by
      have hh : (M 0 1 ^^^ 2 ^ c).testBit c = false := bI_0.mp h40
      rw [hh]
      decide
    rw [if_neg hz]
    refine w_iconst k113_47 ?_
    refine w_iret k113_48 mt113 (.int) rfl (rfl) ?_
    exact ⟨rfl, rfl, fun x hx => by rw [hO x (by omega), hF1 x hx], hG1, hR1.mo hW1 hO hM2⟩
  ·
    have hz : (M 0 1 ^^^ 2 ^ c).testBit c = true := bI_n0.mp h40
    rw [if_pos hz]
    refine w_iconst k113_43 ?_
    refine w_goto k113_44 ?_
    refine w_iret k113_48 mt113 (.int) rfl (rfl) ?_
    exact ⟨rfl, rfl, fun x hx => by rw [hO x (by omega), hF1 x hx], hG1, hR1.mo hW1 hO hM2⟩
set_option maxHeartbeats 1000000 in
theorem sp_rain0 {S : Scr} {d : Nat} {f : FF} {g : GG} {n B : Nat} {tx : Nat → Nat} {tl : Nat} {V : Va} {M : Nat → Nat → Nat} {uN : Nat} {uL : Nat → Nat → Nat → Nat} {kN : Nat} {kL : Nat → Nat → Nat → Nat} {sn : Nat} {se : Nat → Nat → Nat} (hn : 137 ≤ n) (G : GOk g) (hR : CR n f g tx tl V M uN uL kN kL sn se) (hW : StW B tx tl V M uN uL kN kL sn se) {x : Int32} (hb : ¬ (0 ≤ x ∧ x < nI V.1)) : Wp S (d + 3) 113 0 [some (.ref 0), some (.int x)] [] n f g (CQ n f g (-1) tx tl V M uN uL kN kL sn se) := by
  have h200 := hR.2.1.2.1
  have hC := hR.2.2.1
  have hA := hR.2.2.2.1
  have hK := hR.2.2.2.2.2.1
  have hS := hR.2.2.2.2.2.2
  have hV := hW.2.1
  have hM := hW.2.2.1.1
  have h9 := hV.1
  have hm6 := hM.1
  have hmt := hM.2.1
  have hmi := hM.2.2.1
  refine w_aload_n k113_0 rfl rfl ?_
  refine w_getr k113_1 (k := 2) (kc0 hn) (by decide) (r0_2 G) ?_
  refine w_iload_n k113_4 rfl ?_
  refine w_vI k113_5 mt29 (kc17 hn) ⟨rfl, by decide⟩ [_] rfl rfl rfl (sp_Vhas (va17 hn G) hC h9 _) ?_
  refine w_if_ne k113_8 (fun h8 => absurd (bI_0.mpr (decide_eq_false hb)) h8) (fun h8 => ?_)
  refine w_iconst k113_11 ?_
  refine w_iret k113_12 mt113 (.int) rfl (rfl) ?_
  exact CQ.same hR
theorem nI_lt6 {a : Nat} (h : a < 6) : nI a < 6 := (nI_ltI (b := 6) (by omega) (by omega)).mpr h
set_option maxHeartbeats 1000000 in
theorem sp_send {S : Scr} {d : Nat} {f : FF} {g : GG} {n B : Nat} {tx : Nat → Nat} {tl : Nat} {V : Va} {M : Nat → Nat → Nat} {uN : Nat} {uL : Nat → Nat → Nat → Nat} {kN : Nat} {kL : Nat → Nat → Nat → Nat} {sn : Nat} {se : Nat → Nat → Nat} (hn : 137 ≤ n) (G : GOk g) (hR : CR n f g tx tl V M uN uL kN kL sn se) (hW : StW B tx tl V M uN uL kN kL sn se) {c r : Nat} (hc : c < V.1) (hr : RowOk r) (hr0 : isRowI (nI r) = true) (h6z : M 0 2 < 6) : Wp S (d + 3) 117 0 [some (.ref 0), some (.int (nI c)), some (.int (nI r))] [] n f g (CQ n f g (nI (M 0 2)) tx tl V (mAdd M c (M 0 0) r) (if uN < 8 then uN + 1 else 8) (putL 8 uN uL M) kN kL sn se) := by
  have h200 := hR.2.1.2.1
  have hC := hR.2.2.1
  have hA := hR.2.2.2.1
  have hK := hR.2.2.2.2.2.1
  have hS := hR.2.2.2.2.2.2
  have hV := hW.2.1
  have hM := hW.2.2.1.1
  have h9 := hV.1
  have hm6 := hM.1
  have hmt := hM.2.1
  have hmi := hM.2.2.1
  refine w_aload_n k117_0 rfl rfl ?_
  refine w_getr k117_1 (k := 2) (kc0 hn) (by decide) (r0_2 G) ?_
  refine w_iload_n k117_4 rfl ?_
  refine w_vI k117_5 mt29 (kc17 hn) ⟨rfl, by decide⟩ [_] rfl rfl rfl (sp_Vhas (va17 hn G) hC h9 _) ?_
  rw [has_dec (by omega) (by omega)]
  refine w_if_eq k117_8 (fun h8 => absurd h8 (bI_n0.mpr (decide_eq_true hc))) (fun h8 => ?_)
  refine w_iload_n k117_11 rfl ?_
  refine w_sI k117_12 (by decide) mt88 [_] rfl rfl rfl (sp_isRow _) ?_
  refine w_if_ne k117_15 (fun h15 => ?_) (fun h15 => absurd h15 (bI_n0.mpr hr0))
  refine w_aload_n k117_20 rfl rfl ?_
  refine w_getr k117_21 (k := 3) (kc0 hn) (by decide) (r0_3 G) ?_
  refine w_vI k117_24 mt115 (kc21 hn) ⟨rfl, by decide⟩ [] rfl rfl rfl (sp_Msize (mo21 hn G) hA) ?_
  refine w_bipush k117_27 ?_
  refine w_icmp_lt k117_29 (fun h29 => ?_) (fun h29 => absurd (nI_lt6 h6z) h29)
  refine w_aload_n k117_35 rfl rfl ?_
  refine w_getr k117_36 (k := 5) (kc0 hn) (by decide) (r0_5 G) ?_
  refine w_aload_n k117_39 rfl rfl ?_
  refine w_getr k117_40 (k := 3) (kc0 hn) (by decide) (r0_3 G) ?_
  refine w_vA k117_43 mt100 (kc39 hn) ⟨rfl, by decide⟩ [_] rfl rfl rfl (sp_rem hn G hR hW) ?_
  rintro _ n1 f1 g1 ⟨rfl, hn1, hF1, hG1, hR1⟩
  have hn2 := hn1.symm
  subst hn2
  have hu8 : uN ≤ 8 := by
    obtain ⟨_, _, _, _, ⟨b, h4, _⟩, _⟩ := hR
    exact h4.2.2.2.2.1
  have hW1 := hW.put hu8
  have hC1 := hR1.2.2.1
  have hA1 := hR1.2.2.2.1
  have G := hR1.1
  refine w_aload_n k117_46 rfl rfl ?_
  refine w_getr k117_47 (k := 3) (kc0 hn) (by decide) (r0_3 G) ?_
  refine w_iload_n k117_50 rfl ?_
  refine w_aload_n k117_51 rfl rfl ?_
  refine w_getr k117_52 (k := 3) (kc0 hn) (by decide) (r0_3 G) ?_
  refine w_vI k117_55 mt116 (kc21 hn) ⟨rfl, by decide⟩ [] rfl rfl rfl (sp_Mmin (mo21 hn G) hA1) ?_
  refine w_iload_n k117_58 rfl ?_
  refine w_vA k117_59 mt32 (kc21 hn) ⟨rfl, by decide⟩ [_, _, _] rfl rfl rfl (sp_Madd2 (mo21 hn G) hA1 hm6 c (M 0 0) r) ?_
  rintro _ _ f2 _ ⟨rfl, rfl, rfl, hO, hM2⟩
  rw [if_pos h6z] at hM2
  refine w_pop k117_62 rfl ?_
  refine w_aload_n k117_63 rfl rfl ?_
  refine w_getr k117_64 (k := 3) (kc0 hn) (by decide) (r0_3 G) ?_
  refine w_vI k117_67 mt115 (kc21 hn) ⟨rfl, by decide⟩ [] rfl rfl rfl (sp_Msize (mo21 hn G) hM2) ?_
  refine w_iconst k117_70 ?_
  refine w_isub k117_71 ?_
  refine w_top (nI (M 0 2)) (pk_sub (a := M 0 2 + 1) (b := 1) (by omega)) ?_
  refine w_iret k117_72 mt117 (.int) rfl (rfl) ?_
  exact ⟨rfl, rfl, fun x hx => by rw [hO x (by omega), hF1 x hx], hG1, hR1.mo hW1 hO hM2⟩
set_option maxHeartbeats 1000000 in
theorem sp_sendF {S : Scr} {d : Nat} {f : FF} {g : GG} {n B : Nat} {tx : Nat → Nat} {tl : Nat} {V : Va} {M : Nat → Nat → Nat} {uN : Nat} {uL : Nat → Nat → Nat → Nat} {kN : Nat} {kL : Nat → Nat → Nat → Nat} {sn : Nat} {se : Nat → Nat → Nat} (hn : 137 ≤ n) (G : GOk g) (hR : CR n f g tx tl V M uN uL kN kL sn se) (hW : StW B tx tl V M uN uL kN kL sn se) {c r : Nat} (hc : c < V.1) (hr0 : isRowI (nI r) = true) (h6z : ¬ M 0 2 < 6) : Wp S (d + 3) 117 0 [some (.ref 0), some (.int (nI c)), some (.int (nI r))] [] n f g (CQ n f g (-3) tx tl V M uN uL kN kL sn se) := by
  have h200 := hR.2.1.2.1
  have hC := hR.2.2.1
  have hA := hR.2.2.2.1
  have hK := hR.2.2.2.2.2.1
  have hS := hR.2.2.2.2.2.2
  have hV := hW.2.1
  have hM := hW.2.2.1.1
  have h9 := hV.1
  have hm6 := hM.1
  have hmt := hM.2.1
  have hmi := hM.2.2.1
  refine w_aload_n k117_0 rfl rfl ?_
  refine w_getr k117_1 (k := 2) (kc0 hn) (by decide) (r0_2 G) ?_
  refine w_iload_n k117_4 rfl ?_
  refine w_vI k117_5 mt29 (kc17 hn) ⟨rfl, by decide⟩ [_] rfl rfl rfl (sp_Vhas (va17 hn G) hC h9 _) ?_
  rw [has_dec (by omega) (by omega)]
  refine w_if_eq k117_8 (fun h8 => absurd h8 (bI_n0.mpr (decide_eq_true hc))) (fun h8 => ?_)
  refine w_iload_n k117_11 rfl ?_
  refine w_sI k117_12 (by decide) mt88 [_] rfl rfl rfl (sp_isRow _) ?_
  refine w_if_ne k117_15 (fun h15 => ?_) (fun h15 => absurd h15 (bI_n0.mpr hr0))
  refine w_aload_n k117_20 rfl rfl ?_
  refine w_getr k117_21 (k := 3) (kc0 hn) (by decide) (r0_3 G) ?_
  refine w_vI k117_24 mt115 (kc21 hn) ⟨rfl, by decide⟩ [] rfl rfl rfl (sp_Msize (mo21 hn G) hA) ?_
  refine w_bipush k117_27 ?_
  refine w_icmp_lt k117_29 (fun h29 => absurd h29 (fun hh => h6z ((nI_ltI (b := 6) (by omega) (by omega)).mp hh))) (fun h29 => ?_)
  refine w_bipush k117_32 ?_
  refine w_iret k117_34 mt117 (.int) rfl (rfl) ?_
  exact CQ.same hR
set_option maxHeartbeats 1000000 in
theorem sp_send0 {S : Scr} {d : Nat} {f : FF} {g : GG} {n B : Nat} {tx : Nat → Nat} {tl : Nat} {V : Va} {M : Nat → Nat → Nat} {uN : Nat} {uL : Nat → Nat → Nat → Nat} {kN : Nat} {kL : Nat → Nat → Nat → Nat} {sn : Nat} {se : Nat → Nat → Nat} (hn : 137 ≤ n) (G : GOk g) (hR : CR n f g tx tl V M uN uL kN kL sn se) (hW : StW B tx tl V M uN uL kN kL sn se) {x y : Int32} (hb : ¬ ((0 ≤ x ∧ x < nI V.1) ∧ isRowI y = true)) : Wp S (d + 3) 117 0 [some (.ref 0), some (.int x), some (.int y)] [] n f g (CQ n f g (-1) tx tl V M uN uL kN kL sn se) := by
  have h200 := hR.2.1.2.1
  have hC := hR.2.2.1
  have hA := hR.2.2.2.1
  have hK := hR.2.2.2.2.2.1
  have hS := hR.2.2.2.2.2.2
  have hV := hW.2.1
  have hM := hW.2.2.1.1
  have h9 := hV.1
  have hm6 := hM.1
  have hmt := hM.2.1
  have hmi := hM.2.2.1
  refine w_aload_n k117_0 rfl rfl ?_
  refine w_getr k117_1 (k := 2) (kc0 hn) (by decide) (r0_2 G) ?_
  refine w_iload_n k117_4 rfl ?_
  refine w_vI k117_5 mt29 (kc17 hn) ⟨rfl, by decide⟩ [_] rfl rfl rfl (sp_Vhas (va17 hn G) hC h9 _) ?_
  refine w_if_eq k117_8 (fun h8 => ?_) (fun h8 => ?_)
  ·
    refine w_iconst k117_18 ?_
    refine w_iret k117_19 mt117 (.int) rfl (rfl) ?_
    exact CQ.same hR
  ·
    have x8 := of_decide_eq_true (bI_n0.mp h8)
    refine w_iload_n k117_11 rfl ?_
    refine w_sI k117_12 (by decide) mt88 [_] rfl rfl rfl (sp_isRow _) ?_
    refine w_if_ne k117_15 (fun h15 => absurd (bI_0.mpr (Bool.eq_false_iff.mpr fun hh => hb ⟨x8, hh⟩)) h15) (fun h15 => ?_)
    refine w_iconst k117_18 ?_
    refine w_iret k117_19 mt117 (.int) rfl (rfl) ?_
    exact CQ.same hR
/-- a message's row changed -/
def mAlt (M : Nat → Nat → Nat) (m r : Nat) : Nat → Nat → Nat := fun i k => if i = m + 1 ∧ k = 3 then r else M i k
theorem CMo.alt {f : FF} {a : Nat} {M : Nat → Nat → Nat} {m r : Nat} (h : CMo f a M) (hm : m < M 0 2) : CMo (fup f (a + 3 + m) 3 (nI r)) a (mAlt M m r) := by
  have e0 : ∀ k, mAlt M m r 0 k = M 0 k := fun k => if_neg (by omega)
  refine ⟨by rw [fup_no (by omega), e0]; exact h.1, by rw [fup_no (by omega), e0]; exact h.2.1, by rw [fup_no (by omega), e0]; exact h.2.2.1, fun i hi k hk => ?_⟩
  rw [e0] at hi
  have h1 := h.2.2.2 i hi k hk
  unfold mAlt
  by_cases him : i = m
  · subst him
    by_cases hk3 : k = 3
    · subst hk3
      rw [if_pos ⟨rfl, rfl⟩, fup_self]
    · rw [if_neg (fun hh => hk3 hh.2), fup_ne hk3]
      exact h1
  · rw [if_neg (fun hh => him (by omega)), fup_no (by omega)]
    exact h1
set_option maxHeartbeats 1000000 in
theorem sp_alter {S : Scr} {d : Nat} {f : FF} {g : GG} {n B : Nat} {tx : Nat → Nat} {tl : Nat} {V : Va} {M : Nat → Nat → Nat} {uN : Nat} {uL : Nat → Nat → Nat → Nat} {kN : Nat} {kL : Nat → Nat → Nat → Nat} {sn : Nat} {se : Nat → Nat → Nat} (hn : 137 ≤ n) (G : GOk g) (hR : CR n f g tx tl V M uN uL kN kL sn se) (hW : StW B tx tl V M uN uL kN kL sn se) {c r : Nat} (hc : c < M 0 2) (hr0 : isRowI (nI r) = true) (hs : M (c + 1) 1 = 1) : Wp S (d + 3) 119 0 [some (.ref 0), some (.int (nI c)), some (.int (nI r)), none, none] [] n f g (CQ n f g (nI (M (c + 1) 3)) tx tl V (mAlt M c r) (if uN < 8 then uN + 1 else 8) (putL 8 uN uL M) kN kL sn se) := by
  have h200 := hR.2.1.2.1
  have hC := hR.2.2.1
  have hA := hR.2.2.2.1
  have hK := hR.2.2.2.2.2.1
  have hS := hR.2.2.2.2.2.2
  have hV := hW.2.1
  have hM := hW.2.2.1.1
  have h9 := hV.1
  have hm6 := hM.1
  have hmt := hM.2.1
  have hmi := hM.2.2.1
  have hm := hA.2.2.2 c hc
  have hkd := (mo21 hn G).2.2.2.1 c (by omega)
  have hm12 := hM.l12 h9 c hc
  refine w_aload_n k119_0 rfl rfl ?_
  refine w_getr k119_1 (k := 3) (kc0 hn) (by decide) (r0_3 G) ?_
  refine w_iload_n k119_4 rfl ?_
  refine w_vI k119_5 mt82 (kc21 hn) ⟨rfl, by decide⟩ [_] rfl rfl rfl (sp_Mhas (mo21 hn G) hA _) ?_
  rw [has_dec (by omega) (by omega)]
  refine w_if_eq k119_8 (fun h8 => absurd h8 (bI_n0.mpr (decide_eq_true hc))) (fun h8 => ?_)
  refine w_iload_n k119_11 rfl ?_
  refine w_sI k119_12 (by decide) mt88 [_] rfl rfl rfl (sp_isRow _) ?_
  refine w_if_ne k119_15 (fun h15 => ?_) (fun h15 => absurd h15 (bI_n0.mpr hr0))
  refine w_aload_n k119_20 rfl rfl ?_
  refine w_getr k119_21 (k := 3) (kc0 hn) (by decide) (r0_3 G) ?_
  refine w_iload_n k119_24 rfl ?_
  refine w_vI k119_25 mt30 (kc21 hn) ⟨rfl, by decide⟩ [_] rfl rfl rfl (sp_get (j := c) (mo21 hn G) (by omega)) ?_
  refine w_astore_n k119_28 rfl (ls' := [_, _, _, _, _]) rfl ?_
  refine w_aload_n k119_29 rfl rfl ?_
  refine w_geti k119_30 (k := 1) hkd (by decide) ?_
  rw [hm 1 (by omega), hs]
  refine w_iconst k119_33 ?_
  refine w_icmp_eq k119_34 (fun h34 => ?_) (fun h34 => absurd (rfl) h34)
  refine w_aload_n k119_40 rfl rfl ?_
  refine w_getr k119_41 (k := 5) (kc0 hn) (by decide) (r0_5 G) ?_
  refine w_aload_n k119_44 rfl rfl ?_
  refine w_getr k119_45 (k := 3) (kc0 hn) (by decide) (r0_3 G) ?_
  refine w_vA k119_48 mt100 (kc39 hn) ⟨rfl, by decide⟩ [_] rfl rfl rfl (sp_rem hn G hR hW) ?_
  rintro _ n1 f1 g1 ⟨rfl, hn1, hF1, hG1, hR1⟩
  have hn2 := hn1.symm
  subst hn2
  have hu8 : uN ≤ 8 := by
    obtain ⟨_, _, _, _, ⟨b, h4, _⟩, _⟩ := hR
    exact h4.2.2.2.2.1
  have hW1 := hW.put hu8
  have hC1 := hR1.2.2.1
  have hA1 := hR1.2.2.2.1
  have G := hR1.1
  refine w_aload_n k119_51 rfl rfl ?_
  refine w_geti k119_52 (k := 3) hkd (by decide) ?_
  rw [hA1.2.2.2 c hc 3 (by omega)]
  refine w_istore k119_55 (ls' := [_, _, _, _, _]) rfl ?_
  refine w_aload_n k119_57 rfl rfl ?_
  refine w_iload_n k119_58 rfl ?_
  refine w_puti k119_59 (k := 3) hkd (by decide) ?_
  refine w_iload k119_62 rfl ?_
  refine w_iret k119_64 mt119 (.int) rfl (rfl) ?_
  exact ⟨rfl, rfl, fun x hx => by funext y; rw [fup_no (by omega), hF1 x hx], hG1, hR1.mo hW1 (fun x hx => by funext y; exact fup_no (by omega)) (hA1.alt hc)⟩
set_option maxHeartbeats 1000000 in
theorem sp_alterN {S : Scr} {d : Nat} {f : FF} {g : GG} {n B : Nat} {tx : Nat → Nat} {tl : Nat} {V : Va} {M : Nat → Nat → Nat} {uN : Nat} {uL : Nat → Nat → Nat → Nat} {kN : Nat} {kL : Nat → Nat → Nat → Nat} {sn : Nat} {se : Nat → Nat → Nat} (hn : 137 ≤ n) (G : GOk g) (hR : CR n f g tx tl V M uN uL kN kL sn se) (hW : StW B tx tl V M uN uL kN kL sn se) {c r : Nat} (hc : c < M 0 2) (hr0 : isRowI (nI r) = true) (hs : ¬ M (c + 1) 1 = 1) : Wp S (d + 3) 119 0 [some (.ref 0), some (.int (nI c)), some (.int (nI r)), none, none] [] n f g (CQ n f g (-2) tx tl V M uN uL kN kL sn se) := by
  have h200 := hR.2.1.2.1
  have hC := hR.2.2.1
  have hA := hR.2.2.2.1
  have hK := hR.2.2.2.2.2.1
  have hS := hR.2.2.2.2.2.2
  have hV := hW.2.1
  have hM := hW.2.2.1.1
  have h9 := hV.1
  have hm6 := hM.1
  have hmt := hM.2.1
  have hmi := hM.2.2.1
  have hm := hA.2.2.2 c hc
  have hkd := (mo21 hn G).2.2.2.1 c (by omega)
  have hm12 := hM.l12 h9 c hc
  refine w_aload_n k119_0 rfl rfl ?_
  refine w_getr k119_1 (k := 3) (kc0 hn) (by decide) (r0_3 G) ?_
  refine w_iload_n k119_4 rfl ?_
  refine w_vI k119_5 mt82 (kc21 hn) ⟨rfl, by decide⟩ [_] rfl rfl rfl (sp_Mhas (mo21 hn G) hA _) ?_
  rw [has_dec (by omega) (by omega)]
  refine w_if_eq k119_8 (fun h8 => absurd h8 (bI_n0.mpr (decide_eq_true hc))) (fun h8 => ?_)
  refine w_iload_n k119_11 rfl ?_
  refine w_sI k119_12 (by decide) mt88 [_] rfl rfl rfl (sp_isRow _) ?_
  refine w_if_ne k119_15 (fun h15 => ?_) (fun h15 => absurd h15 (bI_n0.mpr hr0))
  refine w_aload_n k119_20 rfl rfl ?_
  refine w_getr k119_21 (k := 3) (kc0 hn) (by decide) (r0_3 G) ?_
  refine w_iload_n k119_24 rfl ?_
  refine w_vI k119_25 mt30 (kc21 hn) ⟨rfl, by decide⟩ [_] rfl rfl rfl (sp_get (j := c) (mo21 hn G) (by omega)) ?_
  refine w_astore_n k119_28 rfl (ls' := [_, _, _, _, _]) rfl ?_
  refine w_aload_n k119_29 rfl rfl ?_
  refine w_geti k119_30 (k := 1) hkd (by decide) ?_
  rw [hm 1 (by omega)]
  refine w_iconst k119_33 ?_
  refine w_icmp_eq k119_34 (fun h34 => absurd h34 (fun hh => hs ((nI_eq (b := 1) (by omega) (by omega)).mp hh))) (fun h34 => ?_)
  refine w_bipush k119_37 ?_
  refine w_iret k119_39 mt119 (.int) rfl (rfl) ?_
  exact CQ.same hR
set_option maxHeartbeats 1000000 in
theorem sp_alter0 {S : Scr} {d : Nat} {f : FF} {g : GG} {n B : Nat} {tx : Nat → Nat} {tl : Nat} {V : Va} {M : Nat → Nat → Nat} {uN : Nat} {uL : Nat → Nat → Nat → Nat} {kN : Nat} {kL : Nat → Nat → Nat → Nat} {sn : Nat} {se : Nat → Nat → Nat} (hn : 137 ≤ n) (G : GOk g) (hR : CR n f g tx tl V M uN uL kN kL sn se) (hW : StW B tx tl V M uN uL kN kL sn se) {x y : Int32} (hb : ¬ ((0 ≤ x ∧ x < nI (M 0 2)) ∧ isRowI y = true)) : Wp S (d + 3) 119 0 [some (.ref 0), some (.int x), some (.int y), none, none] [] n f g (CQ n f g (-1) tx tl V M uN uL kN kL sn se) := by
  have h200 := hR.2.1.2.1
  have hC := hR.2.2.1
  have hA := hR.2.2.2.1
  have hK := hR.2.2.2.2.2.1
  have hS := hR.2.2.2.2.2.2
  have hV := hW.2.1
  have hM := hW.2.2.1.1
  have h9 := hV.1
  have hm6 := hM.1
  have hmt := hM.2.1
  have hmi := hM.2.2.1
  refine w_aload_n k119_0 rfl rfl ?_
  refine w_getr k119_1 (k := 3) (kc0 hn) (by decide) (r0_3 G) ?_
  refine w_iload_n k119_4 rfl ?_
  refine w_vI k119_5 mt82 (kc21 hn) ⟨rfl, by decide⟩ [_] rfl rfl rfl (sp_Mhas (mo21 hn G) hA _) ?_
  refine w_if_eq k119_8 (fun h8 => ?_) (fun h8 => ?_)
  ·
    refine w_iconst k119_18 ?_
    refine w_iret k119_19 mt119 (.int) rfl (rfl) ?_
    exact CQ.same hR
  ·
    have x8 := of_decide_eq_true (bI_n0.mp h8)
    refine w_iload_n k119_11 rfl ?_
    refine w_sI k119_12 (by decide) mt88 [_] rfl rfl rfl (sp_isRow _) ?_
    refine w_if_ne k119_15 (fun h15 => absurd (bI_0.mpr (Bool.eq_false_iff.mpr fun hh => hb ⟨x8, hh⟩)) h15) (fun h15 => ?_)
    refine w_iconst k119_18 ?_
    refine w_iret k119_19 mt119 (.int) rfl (rfl) ?_
    exact CQ.same hR
