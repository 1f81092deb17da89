/-! SPECS, 22: undo, keep, back, out, see, forget, count -/
theorem PiR.pop {n : Nat} {f f' : FF} {g : GG} {p q C sz : Nat} {b : Nat → Nat} {L : Nat → Nat → Nat → Nat} (h : PiR n f g p q C b (sz + 1) L) (h6 : ∀ i, i < sz + 1 → L i 0 2 ≤ 6) (h1 : f' p 1 = nI sz) (h2 : ∀ i, i < C → ∀ x, b i ≤ x → x < b i + 9 → f' x = f x) : PiR n f' g p q C b sz L :=
  ⟨h.1, h.2.1, h.2.2.1, h1, by have := h.2.2.2.2.1; omega, fun i hi => (h.2.2.2.2.2 i (by omega)).eq (h6 i (by omega)) (h2 i (by have := h.2.2.2.2.1; omega))⟩
set_option maxHeartbeats 1000000 in
theorem sp_put2 {S : Scr} {d : Nat} {f : FF} {g : GG} {n p q C a sz : Nat} {b : Nat → Nat} {L : Nat → Nat → Nat → Nat} {M : Nat → Nat → Nat} (hP : PiR n f g p q C b sz L) (hsz : sz < C) (h6 : ∀ i, i < sz → L i 0 2 ≤ 6) (ha : MoOk n g a) (hA : CMo f a M) (hM6 : M 0 2 ≤ 6) (hd : ∀ i, i < C → a + 9 ≤ b i ∨ b i + 9 ≤ a) (hpb : ∀ i, i < C → p < b i ∨ b i + 9 ≤ p) : Wp S (d + 2) 100 0 [some (.ref p), some (.ref a), none] [] n f g (fun v n' f' g' => v = none ∧ n' = n ∧ g' = g ∧ OffP f f' p C b ∧ PiR n f' g p q C b (sz + 1) (fun i => if i = sz then M else L i)) := by
  refine w_aload_n k100_0 rfl rfl ?_
  have hp := hP.1
  have hC := hp.2.2.2
  have hs := hP.2.2.2.2.1
  refine w_geti k100_1 (k := 1) hp.1 (by decide) ?_
  rw [hP.2.2.2.1]
  refine w_aload_n k100_4 rfl rfl ?_
  refine w_getr k100_5 (k := 0) hp.1 (by decide) hp.2.2.1 ?_
  refine w_alen k100_8 hp.2.1 (by decide) (rfl) ?_
  refine w_top (nI C) (rfl) ?_
  refine w_icmp_lt k100_9 (fun h9 => ?_) (fun h9 => absurd ((nI_ltI (by omega) (by omega)).mpr hsz) h9)
  exact lp_put hP hsz h6 ha hA hM6 hd hpb
set_option maxHeartbeats 1000000 in
theorem sp_undo0 {S : Scr} {d : Nat} {f : FF} {g : GG} {n B : Nat} {tx : Nat → Nat} {tl : Nat} {V : Va} {M : Nat → Nat → Nat} {uN : Nat} {uL : Nat → Nat → Nat → Nat} {kN : Nat} {kL : Nat → Nat → Nat → Nat} {sn : Nat} {se : Nat → Nat → Nat} (hn : 137 ≤ n) (G : GOk g) (hR : CR n f g tx tl V M uN uL kN kL sn se) (hW : StW B tx tl V M uN uL kN kL sn se) (hu : uN = 0) : Wp S (d + 3) 123 0 [some (.ref 0)] [] n f g (CQ n f g (-2) tx tl V M uN uL kN kL sn se) := by
  have h200 := hR.2.1.2.1
  have hC := hR.2.2.1
  have hA := hR.2.2.2.1
  have hK := hR.2.2.2.2.2.1
  have hS := hR.2.2.2.2.2.2
  have hV := hW.2.1
  have hM := hW.2.2.1.1
  have h9 := hV.1
  have hm6 := hM.1
  have hmt := hM.2.1
  have hmi := hM.2.2.1
  have hR0 := hR
  obtain ⟨g0, g1, g2, g3, ⟨b, g4, hb⟩, g5, g6⟩ := hR0
  rw [hu] at g4
  refine w_aload_n k123_0 rfl rfl ?_
  refine w_getr k123_1 (k := 5) (kc0 hn) (by decide) (r0_5 G) ?_
  refine w_aload_n k123_4 rfl rfl ?_
  refine w_getr k123_5 (k := 3) (kc0 hn) (by decide) (r0_3 G) ?_
  refine w_vI k123_8 mt121 (kc39 hn) ⟨rfl, by decide⟩ [_] rfl rfl rfl (sp_take0 g4) ?_
  refine w_if_eq k123_11 (fun h11 => ?_) (fun h11 => absurd (rfl) h11)
  refine w_bipush k123_24 ?_
  refine w_iret k123_26 mt123 (.int) rfl (rfl) ?_
  exact CQ.same hR
set_option maxHeartbeats 1000000 in
theorem sp_undo {S : Scr} {d : Nat} {f : FF} {g : GG} {n B : Nat} {tx : Nat → Nat} {tl : Nat} {V : Va} {M : Nat → Nat → Nat} {uN : Nat} {uL : Nat → Nat → Nat → Nat} {kN : Nat} {kL : Nat → Nat → Nat → Nat} {sn : Nat} {se : Nat → Nat → Nat} (hn : 137 ≤ n) (G : GOk g) (hR : CR n f g tx tl V M uN uL kN kL sn se) (hW : StW B tx tl V M uN uL kN kL sn se) {u : Nat} (hu : uN = u + 1) : Wp S (d + 3) 123 0 [some (.ref 0)] [] n f g (CQ n f g (nI u) tx tl V (uL u) u uL kN kL sn se) := by
  have h200 := hR.2.1.2.1
  have hC := hR.2.2.1
  have hA := hR.2.2.2.1
  have hK := hR.2.2.2.2.2.1
  have hS := hR.2.2.2.2.2.2
  have hV := hW.2.1
  have hM := hW.2.2.1.1
  have h9 := hV.1
  have hm6 := hM.1
  have hmt := hM.2.1
  have hmi := hM.2.2.1
  have hR0 := hR
  obtain ⟨g0, g1, g2, g3, ⟨b, g4, hb⟩, g5, g6⟩ := hR0
  rw [hu] at g4
  refine w_aload_n k123_0 rfl rfl ?_
  refine w_getr k123_1 (k := 5) (kc0 hn) (by decide) (r0_5 G) ?_
  refine w_aload_n k123_4 rfl rfl ?_
  refine w_getr k123_5 (k := 3) (kc0 hn) (by decide) (r0_3 G) ?_
  refine w_vA k123_8 mt121 (kc39 hn) ⟨rfl, by decide⟩ [_] rfl rfl rfl (sp_take g4 (fun i hi => (hW.2.2.2.1 i (by omega)).1.1) (mo21 hn G) (fun i hi => by have := hb.in hi; omega) (by omega)) ?_
  rintro _ n1 f1 g1 ⟨rfl, hn1, hg1, hP1, hM1, hO⟩
  have hn2 := hn1.symm
  subst hn2
  have hg2 := hg1.symm
  subst hg2
  have hU1 := g4.pop (f' := f1) (fun i hi => (hW.2.2.2.1 i (by omega)).1.1) hP1 (fun i hi x hx hy => by have := hb.in hi; exact hO x (by omega) (by omega))
  refine w_if_eq k123_11 (fun h11 => absurd h11 (by decide)) (fun h11 => ?_)
  refine w_aload_n k123_14 rfl rfl ?_
  refine w_getr k123_15 (k := 5) (kc0 hn) (by decide) (r0_5 G) ?_
  refine w_vI k123_18 mt122 (kc39 hn) ⟨rfl, by decide⟩ [] rfl rfl rfl (sp_Psize hU1) ?_
  refine w_goto k123_21 ?_
  refine w_iret k123_26 mt123 (.int) rfl (rfl) ?_
  refine ⟨rfl, rfl, fun x hx => hO x (by omega) (by omega), fun _ _ => rfl, g0, g1.eq (fun x hx => hO x (by omega) (by omega)), g2.off (hO _ (by omega) (by omega)) (hO _ (by omega) (by omega)) (hO _ (by omega) (by omega)) (hO _ (by omega) (by omega)), hM1, ⟨b, hU1, hb⟩, ?_, ?_⟩
  · exact g5.eq (fun i hi => (hW.2.2.2.2.1 i hi).1.1) (hO _ (by omega) (by omega)) (fun i hi x hx hy => by have hx : 115 + 9 * i ≤ x := hx; exact hO x (by omega) (by omega))
  · exact ⟨by rw [hO 133 (by omega) (by omega)]; exact g6.1, g6.2.1, fun i hi => by rw [hO 134 (by omega) (by omega), hO 135 (by omega) (by omega), hO 136 (by omega) (by omega)]; exact g6.2.2 i hi⟩
set_option maxHeartbeats 1000000 in
theorem sp_keep {S : Scr} {d : Nat} {f : FF} {g : GG} {n B : Nat} {tx : Nat → Nat} {tl : Nat} {V : Va} {M : Nat → Nat → Nat} {uN : Nat} {uL : Nat → Nat → Nat → Nat} {kN : Nat} {kL : Nat → Nat → Nat → Nat} {sn : Nat} {se : Nat → Nat → Nat} (hn : 137 ≤ n) (G : GOk g) (hR : CR n f g tx tl V M uN uL kN kL sn se) (hW : StW B tx tl V M uN uL kN kL sn se) (hk : kN < 2) : Wp S (d + 3) 183 0 [some (.ref 0)] [] n f g (CQ n f g (nI (kN + 1)) tx tl V M uN uL (kN + 1) (fun i => if i = kN then M else kL i) sn se) := by
  have h200 := hR.2.1.2.1
  have hC := hR.2.2.1
  have hA := hR.2.2.2.1
  have hK := hR.2.2.2.2.2.1
  have hS := hR.2.2.2.2.2.2
  have hV := hW.2.1
  have hM := hW.2.2.1.1
  have h9 := hV.1
  have hm6 := hM.1
  have hmt := hM.2.1
  have hmi := hM.2.2.1
  refine w_aload_n k183_0 rfl rfl ?_
  refine w_getr k183_1 (k := 6) (kc0 hn) (by decide) (r0_6 G) ?_
  refine w_vI k183_4 mt122 (kc113 hn) ⟨rfl, by decide⟩ [] rfl rfl rfl (sp_Psize hK) ?_
  refine w_iconst k183_7 ?_
  refine w_icmp_lt k183_8 (fun h8 => ?_) (fun h8 => absurd ((nI_ltI (b := 2) (by omega) (by omega)).mpr hk) h8)
  refine w_aload_n k183_14 rfl rfl ?_
  refine w_getr k183_15 (k := 6) (kc0 hn) (by decide) (r0_6 G) ?_
  refine w_aload_n k183_18 rfl rfl ?_
  refine w_getr k183_19 (k := 3) (kc0 hn) (by decide) (r0_3 G) ?_
  refine w_vA k183_22 mt100 (kc113 hn) ⟨rfl, by decide⟩ [_] rfl rfl rfl (sp_put2 hK hk (fun i hi => (hW.2.2.2.2.1 i (by omega)).1.1) (mo21 hn G) hA hm6 (fun i hi => by show 21 + 9 ≤ 115 + 9 * i ∨ _; omega) (fun i hi => by show 113 < 115 + 9 * i ∨ _; omega)) ?_
  rintro _ _ f1 _ ⟨rfl, rfl, rfl, hO, hP⟩
  have hO2 : ∀ x, x < 113 ∨ 133 ≤ x → f1 x = f x := fun x hx => hO x (by omega) (fun i hi => by show x < 115 + 9 * i ∨ 115 + 9 * i + 9 ≤ x; omega)
  refine w_aload_n k183_25 rfl rfl ?_
  refine w_getr k183_26 (k := 6) (kc0 hn) (by decide) (r0_6 G) ?_
  refine w_vI k183_29 mt122 (kc113 hn) ⟨rfl, by decide⟩ [] rfl rfl rfl (sp_Psize hP) ?_
  refine w_iret k183_32 mt183 (.int) rfl (rfl) ?_
  obtain ⟨g0, g1, g2, g3, ⟨b, g4, hb⟩, g5, g6⟩ := hR
  refine ⟨rfl, rfl, fun x hx => hO2 x (by omega), fun _ _ => rfl, g0, g1.eq (fun x hx => hO2 x (by omega)), g2.off (hO2 _ (by omega)) (hO2 _ (by omega)) (hO2 _ (by omega)) (hO2 _ (by omega)), g3.eq hm6 (fun x hx hy => hO2 x (by omega)), ⟨b, ?_, hb⟩, hP, ?_⟩
  · exact g4.eq (fun i hi => (hW.2.2.2.1 i hi).1.1) (hO2 _ (by omega)) (fun i hi x hx hy => by have := hb.in hi; exact hO2 x (by omega))
  · exact ⟨by rw [hO2 133 (by omega)]; exact g6.1, g6.2.1, fun i hi => by rw [hO2 134 (by omega), hO2 135 (by omega), hO2 136 (by omega)]; exact g6.2.2 i hi⟩
set_option maxHeartbeats 1000000 in
theorem sp_keepF {S : Scr} {d : Nat} {f : FF} {g : GG} {n B : Nat} {tx : Nat → Nat} {tl : Nat} {V : Va} {M : Nat → Nat → Nat} {uN : Nat} {uL : Nat → Nat → Nat → Nat} {kN : Nat} {kL : Nat → Nat → Nat → Nat} {sn : Nat} {se : Nat → Nat → Nat} (hn : 137 ≤ n) (G : GOk g) (hR : CR n f g tx tl V M uN uL kN kL sn se) (hW : StW B tx tl V M uN uL kN kL sn se) (hk : ¬ kN < 2) : Wp S (d + 3) 183 0 [some (.ref 0)] [] n f g (CQ n f g (-3) tx tl V M uN uL kN kL sn se) := by
  have h200 := hR.2.1.2.1
  have hC := hR.2.2.1
  have hA := hR.2.2.2.1
  have hK := hR.2.2.2.2.2.1
  have hS := hR.2.2.2.2.2.2
  have hV := hW.2.1
  have hM := hW.2.2.1.1
  have h9 := hV.1
  have hm6 := hM.1
  have hmt := hM.2.1
  have hmi := hM.2.2.1
  have hk2 := hK.2.2.2.2.1
  refine w_aload_n k183_0 rfl rfl ?_
  refine w_getr k183_1 (k := 6) (kc0 hn) (by decide) (r0_6 G) ?_
  refine w_vI k183_4 mt122 (kc113 hn) ⟨rfl, by decide⟩ [] rfl rfl rfl (sp_Psize hK) ?_
  refine w_iconst k183_7 ?_
  refine w_icmp_lt k183_8 (fun h8 => absurd h8 (fun hh => hk ((nI_ltI (b := 2) (by omega) (by omega)).mp hh))) (fun h8 => ?_)
  refine w_bipush k183_11 ?_
  refine w_iret k183_13 mt183 (.int) rfl (rfl) ?_
  exact CQ.same hR
set_option maxHeartbeats 1000000 in
theorem sp_back0 {S : Scr} {d : Nat} {f : FF} {g : GG} {n B : Nat} {tx : Nat → Nat} {tl : Nat} {V : Va} {M : Nat → Nat → Nat} {uN : Nat} {uL : Nat → Nat → Nat → Nat} {kN : Nat} {kL : Nat → Nat → Nat → Nat} {sn : Nat} {se : Nat → Nat → Nat} (hn : 137 ≤ n) (G : GOk g) (hR : CR n f g tx tl V M uN uL kN kL sn se) (hW : StW B tx tl V M uN uL kN kL sn se) (hk : kN = 0) : Wp S (d + 3) 185 0 [some (.ref 0)] [] n f g (CQ n f g (-2) tx tl V M uN uL kN kL sn se) := by
  have h200 := hR.2.1.2.1
  have hC := hR.2.2.1
  have hA := hR.2.2.2.1
  have hK := hR.2.2.2.2.2.1
  have hS := hR.2.2.2.2.2.2
  have hV := hW.2.1
  have hM := hW.2.2.1.1
  have h9 := hV.1
  have hm6 := hM.1
  have hmt := hM.2.1
  have hmi := hM.2.2.1
  rw [hk] at hK
  refine w_aload_n k185_0 rfl rfl ?_
  refine w_getr k185_1 (k := 6) (kc0 hn) (by decide) (r0_6 G) ?_
  refine w_aload_n k185_4 rfl rfl ?_
  refine w_getr k185_5 (k := 3) (kc0 hn) (by decide) (r0_3 G) ?_
  refine w_vI k185_8 mt121 (kc113 hn) ⟨rfl, by decide⟩ [_] rfl rfl rfl (sp_take0 hK) ?_
  refine w_if_ne k185_11 (fun h11 => absurd (rfl) h11) (fun h11 => ?_)
  refine w_bipush k185_14 ?_
  refine w_iret k185_16 mt185 (.int) rfl (rfl) ?_
  exact CQ.same hR
set_option maxHeartbeats 1000000 in
theorem sp_back {S : Scr} {d : Nat} {f : FF} {g : GG} {n B : Nat} {tx : Nat → Nat} {tl : Nat} {V : Va} {M : Nat → Nat → Nat} {uN : Nat} {uL : Nat → Nat → Nat → Nat} {kN : Nat} {kL : Nat → Nat → Nat → Nat} {sn : Nat} {se : Nat → Nat → Nat} (hn : 137 ≤ n) (G : GOk g) (hR : CR n f g tx tl V M uN uL kN kL sn se) (hW : StW B tx tl V M uN uL kN kL sn se) {k : Nat} (hk : kN = k + 1) : Wp S (d + 3) 185 0 [some (.ref 0)] [] n f g (CQ n f g (nI k) tx tl V (kL k) 0 uL k kL sn se) := by
  have h200 := hR.2.1.2.1
  have hC := hR.2.2.1
  have hA := hR.2.2.2.1
  have hK := hR.2.2.2.2.2.1
  have hS := hR.2.2.2.2.2.2
  have hV := hW.2.1
  have hM := hW.2.2.1.1
  have h9 := hV.1
  have hm6 := hM.1
  have hmt := hM.2.1
  have hmi := hM.2.2.1
  rw [hk] at hK
  refine w_aload_n k185_0 rfl rfl ?_
  refine w_getr k185_1 (k := 6) (kc0 hn) (by decide) (r0_6 G) ?_
  refine w_aload_n k185_4 rfl rfl ?_
  refine w_getr k185_5 (k := 3) (kc0 hn) (by decide) (r0_3 G) ?_
  refine w_vA k185_8 mt121 (kc113 hn) ⟨rfl, by decide⟩ [_] rfl rfl rfl (sp_take hK (fun i hi => (hW.2.2.2.2.1 i (by omega)).1.1) (mo21 hn G) (fun i hi => by show 21 + 9 ≤ 115 + 9 * i ∨ _; omega) (by omega)) ?_
  rintro _ n1 f1 g1 ⟨rfl, hn1, hg1, hP1, hM1, hO⟩
  have hn2 := hn1.symm
  subst hn2
  have hg2 := hg1.symm
  subst hg2
  have hK1 := hK.pop (f' := f1) (fun i hi => (hW.2.2.2.2.1 i (by omega)).1.1) hP1 (fun i hi x hx hy => by have hx : 115 + 9 * i ≤ x := hx; exact hO x (by omega) (by omega))
  have hK2 : PiR n (fup f1 39 1 0) g 113 114 2 bK k kL := hK1.eq (fun i hi => (hW.2.2.2.2.1 i (by omega)).1.1) (by funext y; exact fup_no (by omega)) (fun i hi x hx hy => by have hx : 115 + 9 * i ≤ x := hx; funext y; exact fup_no (by omega))
  have hO2 : ∀ x, x ≠ 39 → x ≠ 113 → (x < 21 ∨ 30 ≤ x) → fup f1 39 1 0 x = f x := fun x a1 a2 a3 => by funext y; rw [fup_no a1, hO x a2 (by omega)]
  refine w_if_ne k185_11 (fun h11 => ?_) (fun h11 => absurd h11 (by decide))
  refine w_aload_n k185_17 rfl rfl ?_
  refine w_getr k185_18 (k := 5) (kc0 hn) (by decide) (r0_5 G) ?_
  refine w_vV k185_21 mt48 (kc39 hn) ⟨rfl, by decide⟩ [] rfl rfl rfl (sp_Pclear (kc39 hn)) ?_
  refine w_aload_n k185_24 rfl rfl ?_
  refine w_getr k185_25 (k := 6) (kc0 hn) (by decide) (r0_6 G) ?_
  refine w_vI k185_28 mt122 (kc113 hn) ⟨rfl, by decide⟩ [] rfl rfl rfl (sp_Psize hK2) ?_
  refine w_iret k185_31 mt185 (.int) rfl (rfl) ?_
  obtain ⟨g0, g1, g2, g3, ⟨b, g4, hb⟩, g5, g6⟩ := hR
  refine ⟨rfl, rfl, fun x hx => hO2 x (by omega) (by omega) (by omega), fun _ _ => rfl, g0, g1.eq (fun x hx => hO2 x (by omega) (by omega) (by omega)), g2.off (hO2 _ (by omega) (by omega) (by omega)) (hO2 _ (by omega) (by omega) (by omega)) (hO2 _ (by omega) (by omega) (by omega)) (hO2 _ (by omega) (by omega) (by omega)), ?_, ⟨b, g4.cl fup_self, hb⟩, hK2, ?_⟩
  · exact hM1.eq (hW.2.2.2.2.1 k (by omega)).1.1 (fun x hx hy => by funext y; exact fup_no (by omega))
  · exact ⟨by rw [hO2 133 (by omega) (by omega) (by omega)]; exact g6.1, g6.2.1, fun i hi => by rw [hO2 134 (by omega) (by omega) (by omega), hO2 135 (by omega) (by omega) (by omega), hO2 136 (by omega) (by omega) (by omega)]; exact g6.2.2 i hi⟩
/-- what out tells -/
def ouW (V : Va) (t I : Nat) (μ : Nat → Nat) (w : Nat) : Int32 := if ahW V μ &&& I ≠ 0 ∨ 240 < mgW V t μ then -4 else if w = 0 then nI (mgW V t μ) else nI (cmW V V.2.1 9 (μ 2) (μ 3))
theorem mgW_lt {V : Va} {t : Nat} {μ : Nat → Nat} (hV : VWf V) (h : MsW V t μ) : mgW V t μ < 2 ^ 31 := by
  have h1 := mtS_le (V := V) (w := wyW V 9 (μ 2) 0) hV V.1 0 0 rfl
  have h2 := h.1
  have h3 := hV.1
  unfold mgW
  split <;> split <;> omega
set_option maxHeartbeats 1000000 in
theorem sp_out {S : Scr} {d : Nat} {f : FF} {g : GG} {n B : Nat} {tx : Nat → Nat} {tl : Nat} {V : Va} {M : Nat → Nat → Nat} {uN : Nat} {uL : Nat → Nat → Nat → Nat} {kN : Nat} {kL : Nat → Nat → Nat → Nat} {sn : Nat} {se : Nat → Nat → Nat} (hn : 137 ≤ n) (G : GOk g) (hR : CR n f g tx tl V M uN uL kN kL sn se) (hW : StW B tx tl V M uN uL kN kL sn se) {c w : Nat} (hc : c < M 0 2) (hw : w < 2) (hs : ¬ M (c + 1) 1 = 2) : Wp S (d + 6) 136 0 [some (.ref 0), some (.int (nI c)), some (.int (nI w)), none, none] [] n f g (CQ n f g (ouW V (M 0 0) (M 0 1) (M (c + 1)) w) tx tl V M uN uL kN kL sn se) := by
  have h200 := hR.2.1.2.1
  have hC := hR.2.2.1
  have hA := hR.2.2.2.1
  have hK := hR.2.2.2.2.2.1
  have hS := hR.2.2.2.2.2.2
  have hV := hW.2.1
  have hM := hW.2.2.1.1
  have h9 := hV.1
  have hm6 := hM.1
  have hmt := hM.2.1
  have hmi := hM.2.2.1
  have hm := hA.2.2.2 c hc
  have hkd := (mo21 hn G).2.2.2.1 c (by omega)
  have hm12 := hM.l12 h9 c hc
  have hmw := hM.2.2.2 c hc
  have hlt := mgW_lt hV hmw
  refine w_aload_n k136_0 rfl rfl ?_
  refine w_getr k136_1 (k := 3) (kc0 hn) (by decide) (r0_3 G) ?_
  refine w_iload_n k136_4 rfl ?_
  refine w_vI k136_5 mt82 (kc21 hn) ⟨rfl, by decide⟩ [_] rfl rfl rfl (sp_Mhas (mo21 hn G) hA _) ?_
  rw [has_dec (by omega) (by omega)]
  refine w_if_eq k136_8 (fun h8 => absurd h8 (bI_n0.mpr (decide_eq_true hc))) (fun h8 => ?_)
  refine w_iload_n k136_11 rfl ?_
  refine w_iconst k136_12 ?_
  refine w_iconst k136_13 ?_
  refine w_sI k136_14 (by decide) mt22 [_, _, _] rfl rfl rfl (sp_isBetween _ _ _) ?_
  refine w_if_ne k136_17 (fun h17 => ?_) (fun h17 => absurd h17 (bI_n0.mpr (decide_eq_true ⟨nI_pos' (by omega), (nI_leI (b := 1) (by omega) (by omega)).mpr (by omega)⟩)))
  refine w_aload_n k136_22 rfl rfl ?_
  refine w_getr k136_23 (k := 3) (kc0 hn) (by decide) (r0_3 G) ?_
  refine w_iload_n k136_26 rfl ?_
  refine w_vI k136_27 mt30 (kc21 hn) ⟨rfl, by decide⟩ [_] rfl rfl rfl (sp_get (j := c) (mo21 hn G) (by omega)) ?_
  refine w_astore_n k136_30 rfl (ls' := [_, _, _, _, _]) rfl ?_
  refine w_aload_n k136_31 rfl rfl ?_
  refine w_geti k136_32 (k := 1) hkd (by decide) ?_
  rw [hm 1 (by omega)]
  refine w_iconst k136_35 ?_
  refine w_icmp_ne k136_36 (fun h36 => ?_) (fun h36 => absurd h36 (fun hh => hs ((nI_eq (b := 2) (by omega) (by omega)).mp hh)))
  refine w_aload_n k136_42 rfl rfl ?_
  refine w_aload_n k136_43 rfl rfl ?_
  refine w_getr k136_44 (k := 2) (kc0 hn) (by decide) (r0_2 G) ?_
  refine w_aload_n k136_47 rfl rfl ?_
  refine w_getr k136_48 (k := 3) (kc0 hn) (by decide) (r0_3 G) ?_
  refine w_vI k136_51 mt116 (kc21 hn) ⟨rfl, by decide⟩ [] rfl rfl rfl (sp_Mmin (mo21 hn G) hA) ?_
  refine w_vI k136_54 mt133 hkd ⟨rfl, by decide⟩ [_, _] rfl rfl rfl (sp_msgMin hkd hm (va17 hn G) hC hV hmw.2.2.1 hmw.2.2.2.2.2.2.2.2 hmt (fun hh => (hmw.2.2.2.2.2.2.1 hh).1) hmw.2.1) ?_
  refine w_istore k136_57 (ls' := [_, _, _, _, _]) rfl ?_
  refine w_aload_n k136_59 rfl rfl ?_
  refine w_getr k136_60 (k := 3) (kc0 hn) (by decide) (r0_3 G) ?_
  refine w_aload_n k136_63 rfl rfl ?_
  refine w_aload_n k136_64 rfl rfl ?_
  refine w_getr k136_65 (k := 2) (kc0 hn) (by decide) (r0_2 G) ?_
  refine w_vI k136_68 mt135 (kc21 hn) ⟨rfl, by decide⟩ [_, _] rfl rfl rfl (sp_holding hkd hm (va17 hn G) hC hV hmw.2.2.1 hmw.2.2.2.2.2.2.2.2 (mo21 hn G) hA) ?_
  have hal := ahW_lt hV hmw.2.2.1
  have hal2 : ahW V (M (c + 1)) &&& M 0 1 < 512 := Nat.lt_of_le_of_lt Nat.and_le_left hal
  refine w_if_ne k136_71 (fun h71 => ?_) (fun h71 => ?_)
  ·
    have y1 : ahW V (M (c + 1)) &&& M 0 1 ≠ 0 := fun hh => h71 (by rw [hh]; rfl)
    refine w_bipush k136_82 ?_
    refine w_iret k136_84 mt136 (.int) rfl (rfl) ?_
    unfold ouW
    first
      | (rw [if_pos (Or.inl y1)]; exact CQ.same hR)
      | (rw [if_pos (Or.inr y2)]; exact CQ.same hR)
      | (rw [if_neg (fun hh => hh.elim y1 y2), if_pos y3]; exact CQ.same hR)
      | (rw [if_neg (fun hh => hh.elim y1 y2), if_neg y3]; exact CQ.same hR)
  ·
    have y1 : ¬ ahW V (M (c + 1)) &&& M 0 1 ≠ 0 := fun hh => hh ((nI_eq (b := 0) (by omega) (by omega)).mp h71)
    refine w_iload k136_74 rfl ?_
    refine w_sipush k136_76 ?_
    refine w_icmp_le k136_79 (fun h79 => ?_) (fun h79 => ?_)
    ·
      have y2 : ¬ 240 < mgW V (M 0 0) (M (c + 1)) := Nat.not_lt.mpr ((nI_leI (b := 240) (by omega) (by omega)).mp h79)
      refine w_iload_n k136_85 rfl ?_
      refine w_if_ne k136_86 (fun h86 => ?_) (fun h86 => ?_)
      ·
        have y3 : ¬ w = 0 := fun hh => h86 (by rw [hh]; rfl)
        refine w_aload_n k136_94 rfl rfl ?_
        refine w_getr k136_95 (k := 2) (kc0 hn) (by decide) (r0_2 G) ?_
        refine w_aload_n k136_98 rfl rfl ?_
        refine w_geti k136_99 (k := 2) hkd (by decide) ?_
        rw [hm 2 (by omega)]
        refine w_aload_n k136_102 rfl rfl ?_
        refine w_geti k136_103 (k := 3) hkd (by decide) ?_
        rw [hm 3 (by omega)]
        refine w_vI k136_106 mt126 (kc17 hn) ⟨rfl, by decide⟩ [_, _] rfl rfl rfl (sp_rowAtSea (va17 hn G) hC hV hmw.2.2.1 hmw.2.2.2.1.lt) ?_
        refine w_iret k136_109 mt136 (.int) rfl (rfl) ?_
        unfold ouW
        first
          | (rw [if_pos (Or.inl y1)]; exact CQ.same hR)
          | (rw [if_pos (Or.inr y2)]; exact CQ.same hR)
          | (rw [if_neg (fun hh => hh.elim y1 y2), if_pos y3]; exact CQ.same hR)
          | (rw [if_neg (fun hh => hh.elim y1 y2), if_neg y3]; exact CQ.same hR)
      ·
        have y3 : w = 0 := (nI_eq (b := 0) (by omega) (by omega)).mp h86
        refine w_iload k136_89 rfl ?_
        refine w_goto k136_91 ?_
        refine w_iret k136_109 mt136 (.int) rfl (rfl) ?_
        unfold ouW
        first
          | (rw [if_pos (Or.inl y1)]; exact CQ.same hR)
          | (rw [if_pos (Or.inr y2)]; exact CQ.same hR)
          | (rw [if_neg (fun hh => hh.elim y1 y2), if_pos y3]; exact CQ.same hR)
          | (rw [if_neg (fun hh => hh.elim y1 y2), if_neg y3]; exact CQ.same hR)
    ·
      have y2 : 240 < mgW V (M 0 0) (M (c + 1)) := Nat.not_le.mp fun hh => h79 ((nI_leI (b := 240) (by omega) (by omega)).mpr hh)
      refine w_bipush k136_82 ?_
      refine w_iret k136_84 mt136 (.int) rfl (rfl) ?_
      unfold ouW
      first
        | (rw [if_pos (Or.inl y1)]; exact CQ.same hR)
        | (rw [if_pos (Or.inr y2)]; exact CQ.same hR)
        | (rw [if_neg (fun hh => hh.elim y1 y2), if_pos y3]; exact CQ.same hR)
        | (rw [if_neg (fun hh => hh.elim y1 y2), if_neg y3]; exact CQ.same hR)
set_option maxHeartbeats 1000000 in
theorem sp_outN {S : Scr} {d : Nat} {f : FF} {g : GG} {n B : Nat} {tx : Nat → Nat} {tl : Nat} {V : Va} {M : Nat → Nat → Nat} {uN : Nat} {uL : Nat → Nat → Nat → Nat} {kN : Nat} {kL : Nat → Nat → Nat → Nat} {sn : Nat} {se : Nat → Nat → Nat} (hn : 137 ≤ n) (G : GOk g) (hR : CR n f g tx tl V M uN uL kN kL sn se) (hW : StW B tx tl V M uN uL kN kL sn se) {c w : Nat} (hc : c < M 0 2) (hw : w < 2) (hs : M (c + 1) 1 = 2) : Wp S (d + 6) 136 0 [some (.ref 0), some (.int (nI c)), some (.int (nI w)), none, none] [] n f g (CQ n f g (-2) tx tl V M uN uL kN kL sn se) := by
  have h200 := hR.2.1.2.1
  have hC := hR.2.2.1
  have hA := hR.2.2.2.1
  have hK := hR.2.2.2.2.2.1
  have hS := hR.2.2.2.2.2.2
  have hV := hW.2.1
  have hM := hW.2.2.1.1
  have h9 := hV.1
  have hm6 := hM.1
  have hmt := hM.2.1
  have hmi := hM.2.2.1
  have hm := hA.2.2.2 c hc
  have hkd := (mo21 hn G).2.2.2.1 c (by omega)
  have hm12 := hM.l12 h9 c hc
  have hmw := hM.2.2.2 c hc
  have hlt := mgW_lt hV hmw
  refine w_aload_n k136_0 rfl rfl ?_
  refine w_getr k136_1 (k := 3) (kc0 hn) (by decide) (r0_3 G) ?_
  refine w_iload_n k136_4 rfl ?_
  refine w_vI k136_5 mt82 (kc21 hn) ⟨rfl, by decide⟩ [_] rfl rfl rfl (sp_Mhas (mo21 hn G) hA _) ?_
  rw [has_dec (by omega) (by omega)]
  refine w_if_eq k136_8 (fun h8 => absurd h8 (bI_n0.mpr (decide_eq_true hc))) (fun h8 => ?_)
  refine w_iload_n k136_11 rfl ?_
  refine w_iconst k136_12 ?_
  refine w_iconst k136_13 ?_
  refine w_sI k136_14 (by decide) mt22 [_, _, _] rfl rfl rfl (sp_isBetween _ _ _) ?_
  refine w_if_ne k136_17 (fun h17 => ?_) (fun h17 => absurd h17 (bI_n0.mpr (decide_eq_true ⟨nI_pos' (by omega), (nI_leI (b := 1) (by omega) (by omega)).mpr (by omega)⟩)))
  refine w_aload_n k136_22 rfl rfl ?_
  refine w_getr k136_23 (k := 3) (kc0 hn) (by decide) (r0_3 G) ?_
  refine w_iload_n k136_26 rfl ?_
  refine w_vI k136_27 mt30 (kc21 hn) ⟨rfl, by decide⟩ [_] rfl rfl rfl (sp_get (j := c) (mo21 hn G) (by omega)) ?_
  refine w_astore_n k136_30 rfl (ls' := [_, _, _, _, _]) rfl ?_
  refine w_aload_n k136_31 rfl rfl ?_
  refine w_geti k136_32 (k := 1) hkd (by decide) ?_
  rw [hm 1 (by omega), hs]
  refine w_iconst k136_35 ?_
  refine w_icmp_ne k136_36 (fun h36 => absurd (rfl) h36) (fun h36 => ?_)
  refine w_bipush k136_39 ?_
  refine w_iret k136_41 mt136 (.int) rfl (rfl) ?_
  exact CQ.same hR
set_option maxHeartbeats 1000000 in
theorem sp_out0 {S : Scr} {d : Nat} {f : FF} {g : GG} {n B : Nat} {tx : Nat → Nat} {tl : Nat} {V : Va} {M : Nat → Nat → Nat} {uN : Nat} {uL : Nat → Nat → Nat → Nat} {kN : Nat} {kL : Nat → Nat → Nat → Nat} {sn : Nat} {se : Nat → Nat → Nat} (hn : 137 ≤ n) (G : GOk g) (hR : CR n f g tx tl V M uN uL kN kL sn se) (hW : StW B tx tl V M uN uL kN kL sn se) {x y : Int32} (hb : ¬ ((0 ≤ x ∧ x < nI (M 0 2)) ∧ 0 ≤ y ∧ y ≤ 1)) : Wp S (d + 6) 136 0 [some (.ref 0), some (.int x), some (.int y), none, none] [] n f g (CQ n f g (-1) tx tl V M uN uL kN kL sn se) := by
  have h200 := hR.2.1.2.1
  have hC := hR.2.2.1
  have hA := hR.2.2.2.1
  have hK := hR.2.2.2.2.2.1
  have hS := hR.2.2.2.2.2.2
  have hV := hW.2.1
  have hM := hW.2.2.1.1
  have h9 := hV.1
  have hm6 := hM.1
  have hmt := hM.2.1
  have hmi := hM.2.2.1
  refine w_aload_n k136_0 rfl rfl ?_
  refine w_getr k136_1 (k := 3) (kc0 hn) (by decide) (r0_3 G) ?_
  refine w_iload_n k136_4 rfl ?_
  refine w_vI k136_5 mt82 (kc21 hn) ⟨rfl, by decide⟩ [_] rfl rfl rfl (sp_Mhas (mo21 hn G) hA _) ?_
  refine w_if_eq k136_8 (fun h8 => ?_) (fun h8 => ?_)
  ·
    refine w_iconst k136_20 ?_
    refine w_iret k136_21 mt136 (.int) rfl (rfl) ?_
    exact CQ.same hR
  ·
    have x8 := of_decide_eq_true (bI_n0.mp h8)
    refine w_iload_n k136_11 rfl ?_
    refine w_iconst k136_12 ?_
    refine w_iconst k136_13 ?_
    refine w_sI k136_14 (by decide) mt22 [_, _, _] rfl rfl rfl (sp_isBetween _ _ _) ?_
    refine w_if_ne k136_17 (fun h17 => absurd (bI_0.mpr (decide_eq_false fun hh => hb ⟨x8, hh⟩)) h17) (fun h17 => ?_)
    refine w_iconst k136_20 ?_
    refine w_iret k136_21 mt136 (.int) rfl (rfl) ?_
    exact CQ.same hR
theorem CR.se {n B : Nat} {f : FF} {g : GG} {tx : Nat → Nat} {tl : Nat} {V : Va} {M : Nat → Nat → Nat} {uN : Nat} {uL : Nat → Nat → Nat → Nat} {kN : Nat} {kL : Nat → Nat → Nat → Nat} {sn : Nat} {se : Nat → Nat → Nat} (h : CR n f g tx tl V M uN uL kN kL sn se) (hW : StW B tx tl V M uN uL kN kL sn se) {f' : FF} {sn2 : Nat} {se2 : Nat → Nat → Nat} (ho : ∀ x, x < 133 ∨ 136 < x → f' x = f x) (h2 : CSe f' se2 sn2) : CR n f' g tx tl V M uN uL kN kL sn2 se2 := by
  obtain ⟨g0, g1, g2, g3, ⟨b, g4, hb⟩, g5, g6⟩ := h
  refine ⟨g0, g1.eq (fun x hx => ho x (by omega)), g2.off (ho _ (by omega)) (ho _ (by omega)) (ho _ (by omega)) (ho _ (by omega)), g3.eq hW.2.2.1.1.1 (fun x hx hy => ho x (by omega)), ⟨b, ?_, hb⟩, ?_, h2⟩
  · exact g4.eq (fun i hi => (hW.2.2.2.1 i hi).1.1) (ho _ (by omega)) (fun i hi x hx hy => by have := hb.in hi; exact ho x (by omega))
  · exact g5.eq (fun i hi => (hW.2.2.2.2.1 i hi).1.1) (ho _ (by omega)) (fun i hi x hx hy => by have hx : 115 + 9 * i ≤ x := hx; have hy : x < 115 + 9 * i + 9 := hy; exact ho x (by omega))
theorem sp_Sadd2 {S : Scr} {d : Nat} {f : FF} {g : GG} {n sn : Nat} {se : Nat → Nat → Nat} (hn : 137 ≤ n) (G : GOk g) (hS : CSe f se sn) {c r w : Nat} : Wp S (d + 1) 156 0 [some (.ref 133), some (.int (nI c)), some (.int (nI r)), some (.int (nI w))] [] n f g (fun v n' f' g' => v = some (.int (bI (decide (sn < 6)))) ∧ n' = n ∧ g' = g ∧ (∀ x, x < 133 ∨ 136 < x → f' x = f x) ∧ CSe f' (if sn < 6 then seA se sn c r w else se) (if sn < 6 then sn + 1 else sn)) := by
  refine (sp_Sadd hn G hS).mono ?_
  rintro v n' f' g' ⟨rfl, rfl, h1, h2⟩
  by_cases hz : sn < 6
  · rw [if_pos hz] at h2 ⊢
    rw [if_pos hz, decide_eq_true hz]
    exact ⟨h2.1, rfl, rfl, h1, h2.2⟩
  · rw [if_neg hz] at h2 ⊢
    rw [if_neg hz, decide_eq_false hz]
    exact ⟨h2.1, rfl, rfl, h1, h2.2⟩
set_option maxHeartbeats 1000000 in
theorem sp_see {S : Scr} {d : Nat} {f : FF} {g : GG} {n B : Nat} {tx : Nat → Nat} {tl : Nat} {V : Va} {M : Nat → Nat → Nat} {uN : Nat} {uL : Nat → Nat → Nat → Nat} {kN : Nat} {kL : Nat → Nat → Nat → Nat} {sn : Nat} {se : Nat → Nat → Nat} (hn : 137 ≤ n) (G : GOk g) (hR : CR n f g tx tl V M uN uL kN kL sn se) (hW : StW B tx tl V M uN uL kN kL sn se) {c r w : Nat} (hc : c < V.1) (hr0 : isRowI (nI r) = true) (hw0 : isRow0 (nI w) = true) : Wp S (d + 3) 158 0 [some (.ref 0), some (.int (nI c)), some (.int (nI r)), some (.int (nI w))] [] n f g (CQ n f g (if sn < 6 then nI (sn + 1) else -3) tx tl V M uN uL kN kL (if sn < 6 then sn + 1 else sn) (if sn < 6 then seA se sn c r w else se)) := by
  have h200 := hR.2.1.2.1
  have hC := hR.2.2.1
  have hA := hR.2.2.2.1
  have hK := hR.2.2.2.2.2.1
  have hS := hR.2.2.2.2.2.2
  have hV := hW.2.1
  have hM := hW.2.2.1.1
  have h9 := hV.1
  have hm6 := hM.1
  have hmt := hM.2.1
  have hmi := hM.2.2.1
  refine w_aload_n k158_0 rfl rfl ?_
  refine w_getr k158_1 (k := 2) (kc0 hn) (by decide) (r0_2 G) ?_
  refine w_iload_n k158_4 rfl ?_
  refine w_vI k158_5 mt29 (kc17 hn) ⟨rfl, by decide⟩ [_] rfl rfl rfl (sp_Vhas (va17 hn G) hC h9 _) ?_
  rw [has_dec (by omega) (by omega)]
  refine w_if_eq k158_8 (fun h8 => absurd h8 (bI_n0.mpr (decide_eq_true hc))) (fun h8 => ?_)
  refine w_iload_n k158_11 rfl ?_
  refine w_sI k158_12 (by decide) mt88 [_] rfl rfl rfl (sp_isRow _) ?_
  refine w_if_eq k158_15 (fun h15 => absurd h15 (bI_n0.mpr hr0)) (fun h15 => ?_)
  refine w_iload_n k158_18 rfl ?_
  refine w_sI k158_19 (by decide) mt89 [_] rfl rfl rfl (sp_isRowOrEmpty _) ?_
  refine w_if_ne k158_22 (fun h22 => ?_) (fun h22 => absurd h22 (bI_n0.mpr hw0))
  refine w_aload_n k158_27 rfl rfl ?_
  refine w_getr k158_28 (k := 7) (kc0 hn) (by decide) (r0_7 G) ?_
  refine w_iload_n k158_31 rfl ?_
  refine w_iload_n k158_32 rfl ?_
  refine w_iload_n k158_33 rfl ?_
  refine w_vA k158_34 mt156 (kc133 hn) ⟨rfl, by decide⟩ [_, _, _] rfl rfl rfl (sp_Sadd2 hn G hS) ?_
  rintro _ _ f2 _ ⟨rfl, rfl, rfl, hO, hS2⟩
  have hR2 := hR.se hW hO hS2
  refine w_if_eq k158_37 (fun h37 => ?_) (fun h37 => ?_)
  ·
    have hz := of_decide_eq_false (bI_0.mp h37)
    rw [if_neg hz]
    refine w_bipush k158_50 ?_
    refine w_iret k158_52 mt158 (.int) rfl (rfl) ?_
    first
      | (rw [if_pos hz] at hR2; exact ⟨rfl, rfl, fun x hx => hO x (by omega), fun _ _ => rfl, hR2⟩)
      | (rw [if_neg hz] at hR2 ⊢; exact ⟨rfl, rfl, fun x hx => hO x (by omega), fun _ _ => rfl, hR2⟩)
      | exact ⟨rfl, rfl, fun x hx => hO x (by omega), fun _ _ => rfl, hR2⟩
  ·
    have hz := of_decide_eq_true (bI_n0.mp h37)
    rw [if_pos hz]
    refine w_aload_n k158_40 rfl rfl ?_
    refine w_getr k158_41 (k := 7) (kc0 hn) (by decide) (r0_7 G) ?_
    refine w_vI k158_44 mt157 (kc133 hn) ⟨rfl, by decide⟩ [] rfl rfl rfl (sp_Ssize hn hS2) ?_
    try rw [if_pos hz]
    refine w_goto k158_47 ?_
    refine w_iret k158_52 mt158 (.int) rfl (rfl) ?_
    first
      | (rw [if_pos hz] at hR2; exact ⟨rfl, rfl, fun x hx => hO x (by omega), fun _ _ => rfl, hR2⟩)
      | (rw [if_neg hz] at hR2 ⊢; exact ⟨rfl, rfl, fun x hx => hO x (by omega), fun _ _ => rfl, hR2⟩)
      | exact ⟨rfl, rfl, fun x hx => hO x (by omega), fun _ _ => rfl, hR2⟩
set_option maxHeartbeats 1000000 in
theorem sp_see0 {S : Scr} {d : Nat} {f : FF} {g : GG} {n B : Nat} {tx : Nat → Nat} {tl : Nat} {V : Va} {M : Nat → Nat → Nat} {uN : Nat} {uL : Nat → Nat → Nat → Nat} {kN : Nat} {kL : Nat → Nat → Nat → Nat} {sn : Nat} {se : Nat → Nat → Nat} (hn : 137 ≤ n) (G : GOk g) (hR : CR n f g tx tl V M uN uL kN kL sn se) (hW : StW B tx tl V M uN uL kN kL sn se) {x y z : Int32} (hb : ¬ ((0 ≤ x ∧ x < nI V.1) ∧ isRowI y = true ∧ isRow0 z = true)) : Wp S (d + 3) 158 0 [some (.ref 0), some (.int x), some (.int y), some (.int z)] [] n f g (CQ n f g (-1) tx tl V M uN uL kN kL sn se) := by
  have h200 := hR.2.1.2.1
  have hC := hR.2.2.1
  have hA := hR.2.2.2.1
  have hK := hR.2.2.2.2.2.1
  have hS := hR.2.2.2.2.2.2
  have hV := hW.2.1
  have hM := hW.2.2.1.1
  have h9 := hV.1
  have hm6 := hM.1
  have hmt := hM.2.1
  have hmi := hM.2.2.1
  refine w_aload_n k158_0 rfl rfl ?_
  refine w_getr k158_1 (k := 2) (kc0 hn) (by decide) (r0_2 G) ?_
  refine w_iload_n k158_4 rfl ?_
  refine w_vI k158_5 mt29 (kc17 hn) ⟨rfl, by decide⟩ [_] rfl rfl rfl (sp_Vhas (va17 hn G) hC h9 _) ?_
  refine w_if_eq k158_8 (fun h8 => ?_) (fun h8 => ?_)
  ·
    refine w_iconst k158_25 ?_
    refine w_iret k158_26 mt158 (.int) rfl (rfl) ?_
    exact CQ.same hR
  ·
    have x8 := of_decide_eq_true (bI_n0.mp h8)
    refine w_iload_n k158_11 rfl ?_
    refine w_sI k158_12 (by decide) mt88 [_] rfl rfl rfl (sp_isRow _) ?_
    refine w_if_eq k158_15 (fun h15 => ?_) (fun h15 => ?_)
    ·
      refine w_iconst k158_25 ?_
      refine w_iret k158_26 mt158 (.int) rfl (rfl) ?_
      exact CQ.same hR
    ·
      have x15 := bI_n0.mp h15
      refine w_iload_n k158_18 rfl ?_
      refine w_sI k158_19 (by decide) mt89 [_] rfl rfl rfl (sp_isRowOrEmpty _) ?_
      refine w_if_ne k158_22 (fun h22 => absurd (bI_0.mpr (Bool.eq_false_iff.mpr fun hh => hb ⟨x8, x15, hh⟩)) h22) (fun h22 => ?_)
      refine w_iconst k158_25 ?_
      refine w_iret k158_26 mt158 (.int) rfl (rfl) ?_
      exact CQ.same hR
set_option maxHeartbeats 1000000 in
theorem sp_forget {S : Scr} {d : Nat} {f : FF} {g : GG} {n B : Nat} {tx : Nat → Nat} {tl : Nat} {V : Va} {M : Nat → Nat → Nat} {uN : Nat} {uL : Nat → Nat → Nat → Nat} {kN : Nat} {kL : Nat → Nat → Nat → Nat} {sn : Nat} {se : Nat → Nat → Nat} (hn : 137 ≤ n) (G : GOk g) (hR : CR n f g tx tl V M uN uL kN kL sn se) (hW : StW B tx tl V M uN uL kN kL sn se)  : Wp S (d + 1) 160 0 [some (.ref 0), none] [] n f g (CQ n f g (nI sn) tx tl V M uN uL kN kL 0 se) := by
  have h200 := hR.2.1.2.1
  have hC := hR.2.2.1
  have hA := hR.2.2.2.1
  have hK := hR.2.2.2.2.2.1
  have hS := hR.2.2.2.2.2.2
  have hV := hW.2.1
  have hM := hW.2.2.1.1
  have h9 := hV.1
  have hm6 := hM.1
  have hmt := hM.2.1
  have hmi := hM.2.2.1
  refine w_aload_n k160_0 rfl rfl ?_
  refine w_getr k160_1 (k := 7) (kc0 hn) (by decide) (r0_7 G) ?_
  refine w_vI k160_4 mt157 (kc133 hn) ⟨rfl, by decide⟩ [] rfl rfl rfl (sp_Ssize hn hS) ?_
  refine w_istore_n k160_7 (ls' := [_, _]) rfl ?_
  refine w_aload_n k160_8 rfl rfl ?_
  refine w_getr k160_9 (k := 7) (kc0 hn) (by decide) (r0_7 G) ?_
  refine w_vV k160_12 mt47 (kc133 hn) ⟨rfl, by decide⟩ [] rfl rfl rfl (sp_Sclear hn) ?_
  refine w_iload_n k160_15 rfl ?_
  refine w_iret k160_16 mt160 (.int) rfl (rfl) ?_
  exact ⟨rfl, rfl, fun x hx => by funext y; exact fup_no (by omega), fun _ _ => rfl, hR.se hW (fun x hx => by funext y; exact fup_no (by omega)) ⟨fup_self, Nat.zero_le _, fun i hi => absurd hi (Nat.not_lt_zero i)⟩⟩
/-- what count tells -/
def ctW (tl : Nat) (V : Va) (M : Nat → Nat → Nat) (uN kN sn w : Nat) : Nat := if w = 0 then V.1 else if w = 1 then M 0 2 else if w = 2 then M 0 0 else if w = 3 then popc (M 0 1) 9 else if w = 4 then howAre M 1 (M 0 2) 0 0 else if w = 5 then howAre M 2 (M 0 2) 0 0 else if w = 6 then sn else if w = 7 then uN else if w = 8 then kN else tl
set_option maxHeartbeats 1000000 in
theorem sp_count {S : Scr} {d : Nat} {f : FF} {g : GG} {n B : Nat} {tx : Nat → Nat} {tl : Nat} {V : Va} {M : Nat → Nat → Nat} {uN : Nat} {uL : Nat → Nat → Nat → Nat} {kN : Nat} {kL : Nat → Nat → Nat → Nat} {sn : Nat} {se : Nat → Nat → Nat} (hn : 137 ≤ n) (G : GOk g) (hR : CR n f g tx tl V M uN uL kN kL sn se) (hW : StW B tx tl V M uN uL kN kL sn se) {w : Nat} (hw : w < 10) : Wp S (d + 2) 188 0 [some (.ref 0), some (.int (nI w))] [] n f g (CQ n f g (nI (ctW tl V M uN kN sn w)) tx tl V M uN uL kN kL sn se) := by
  have h200 := hR.2.1.2.1
  have hC := hR.2.2.1
  have hA := hR.2.2.2.1
  have hK := hR.2.2.2.2.2.1
  have hS := hR.2.2.2.2.2.2
  have hV := hW.2.1
  have hM := hW.2.2.1.1
  have h9 := hV.1
  have hm6 := hM.1
  have hmt := hM.2.1
  have hmi := hM.2.2.1
  have hR0 := hR
  obtain ⟨_, _, _, _, ⟨b, g4, hb⟩, _, _⟩ := hR0
  refine w_iload_n k188_0 rfl ?_
  rcases (show w = 0 ∨ w = 1 ∨ w = 2 ∨ w = 3 ∨ w = 4 ∨ w = 5 ∨ w = 6 ∨ w = 7 ∨ w = 8 ∨ w = 9 by omega) with rfl | rfl | rfl | rfl | rfl | rfl | rfl | rfl | rfl | rfl
  ·
    refine w_tsw k188_1 (t := 56) (by decide) ?_
    refine w_aload_n k188_56 rfl rfl ?_
    refine w_getr k188_57 (k := 2) (kc0 hn) (by decide) (r0_2 G) ?_
    refine w_vI k188_60 mt72 (kc17 hn) ⟨rfl, by decide⟩ [] rfl rfl rfl (sp_Vsize (va17 hn G) hC) ?_
    refine w_iret k188_63 mt188 (.int) rfl (rfl) ?_
    exact CQ.same hR
  ·
    refine w_tsw k188_1 (t := 64) (by decide) ?_
    refine w_aload_n k188_64 rfl rfl ?_
    refine w_getr k188_65 (k := 3) (kc0 hn) (by decide) (r0_3 G) ?_
    refine w_vI k188_68 mt115 (kc21 hn) ⟨rfl, by decide⟩ [] rfl rfl rfl (sp_Msize (mo21 hn G) hA) ?_
    refine w_iret k188_71 mt188 (.int) rfl (rfl) ?_
    exact CQ.same hR
  ·
    refine w_tsw k188_1 (t := 72) (by decide) ?_
    refine w_aload_n k188_72 rfl rfl ?_
    refine w_getr k188_73 (k := 3) (kc0 hn) (by decide) (r0_3 G) ?_
    refine w_vI k188_76 mt116 (kc21 hn) ⟨rfl, by decide⟩ [] rfl rfl rfl (sp_Mmin (mo21 hn G) hA) ?_
    refine w_iret k188_79 mt188 (.int) rfl (rfl) ?_
    exact CQ.same hR
  ·
    refine w_tsw k188_1 (t := 80) (by decide) ?_
    refine w_aload_n k188_80 rfl rfl ?_
    refine w_getr k188_81 (k := 3) (kc0 hn) (by decide) (r0_3 G) ?_
    refine w_vI k188_84 mt187 (kc21 hn) ⟨rfl, by decide⟩ [] rfl rfl rfl (sp_howIn (mo21 hn G) hA hmi) ?_
    refine w_iret k188_87 mt188 (.int) rfl (rfl) ?_
    exact CQ.same hR
  ·
    refine w_tsw k188_1 (t := 88) (by decide) ?_
    refine w_aload_n k188_88 rfl rfl ?_
    refine w_getr k188_89 (k := 3) (kc0 hn) (by decide) (r0_3 G) ?_
    refine w_iconst k188_92 ?_
    refine w_vI k188_93 mt105 (kc21 hn) ⟨rfl, by decide⟩ [_] rfl rfl rfl (sp_howAre (mo21 hn G) hA hm6 (fun m hm => (hM.l12 h9 m hm).1) 1 (by decide)) ?_
    refine w_iret k188_96 mt188 (.int) rfl (rfl) ?_
    exact CQ.same hR
  ·
    refine w_tsw k188_1 (t := 97) (by decide) ?_
    refine w_aload_n k188_97 rfl rfl ?_
    refine w_getr k188_98 (k := 3) (kc0 hn) (by decide) (r0_3 G) ?_
    refine w_iconst k188_101 ?_
    refine w_vI k188_102 mt105 (kc21 hn) ⟨rfl, by decide⟩ [_] rfl rfl rfl (sp_howAre (mo21 hn G) hA hm6 (fun m hm => (hM.l12 h9 m hm).1) 2 (by decide)) ?_
    refine w_iret k188_105 mt188 (.int) rfl (rfl) ?_
    exact CQ.same hR
  ·
    refine w_tsw k188_1 (t := 106) (by decide) ?_
    refine w_aload_n k188_106 rfl rfl ?_
    refine w_getr k188_107 (k := 7) (kc0 hn) (by decide) (r0_7 G) ?_
    refine w_vI k188_110 mt157 (kc133 hn) ⟨rfl, by decide⟩ [] rfl rfl rfl (sp_Ssize hn hS) ?_
    refine w_iret k188_113 mt188 (.int) rfl (rfl) ?_
    exact CQ.same hR
  ·
    refine w_tsw k188_1 (t := 114) (by decide) ?_
    refine w_aload_n k188_114 rfl rfl ?_
    refine w_getr k188_115 (k := 5) (kc0 hn) (by decide) (r0_5 G) ?_
    refine w_vI k188_118 mt122 (kc39 hn) ⟨rfl, by decide⟩ [] rfl rfl rfl (sp_Psize g4) ?_
    refine w_iret k188_121 mt188 (.int) rfl (rfl) ?_
    exact CQ.same hR
  ·
    refine w_tsw k188_1 (t := 122) (by decide) ?_
    refine w_aload_n k188_122 rfl rfl ?_
    refine w_getr k188_123 (k := 6) (kc0 hn) (by decide) (r0_6 G) ?_
    refine w_vI k188_126 mt122 (kc113 hn) ⟨rfl, by decide⟩ [] rfl rfl rfl (sp_Psize hK) ?_
    refine w_iret k188_129 mt188 (.int) rfl (rfl) ?_
    exact CQ.same hR
  ·
    refine w_tsw k188_1 (t := 130) (by decide) ?_
    refine w_aload_n k188_130 rfl rfl ?_
    refine w_getr k188_131 (k := 1) (kc0 hn) (by decide) (r0_1 G) ?_
    refine w_vI k188_134 mt19 (kc2 hn) ⟨rfl, by decide⟩ [] rfl rfl rfl (sp_Llen hn hR.2.1) ?_
    refine w_iret k188_137 mt188 (.int) rfl (rfl) ?_
    exact CQ.same hR
set_option maxHeartbeats 1000000 in
theorem sp_count0 {S : Scr} {d : Nat} {f : FF} {g : GG} {n B : Nat} {tx : Nat → Nat} {tl : Nat} {V : Va} {M : Nat → Nat → Nat} {uN : Nat} {uL : Nat → Nat → Nat → Nat} {kN : Nat} {kL : Nat → Nat → Nat → Nat} {sn : Nat} {se : Nat → Nat → Nat} (hn : 137 ≤ n) (G : GOk g) (hR : CR n f g tx tl V M uN uL kN kL sn se) (hW : StW B tx tl V M uN uL kN kL sn se) {y : Int32} (hb : ¬ (0 ≤ y ∧ y ≤ nI 9)) : Wp S (d + 2) 188 0 [some (.ref 0), some (.int y)] [] n f g (CQ n f g (-1) tx tl V M uN uL kN kL sn se) := by
  have h200 := hR.2.1.2.1
  have hC := hR.2.2.1
  have hA := hR.2.2.2.1
  have hK := hR.2.2.2.2.2.1
  have hS := hR.2.2.2.2.2.2
  have hV := hW.2.1
  have hM := hW.2.2.1.1
  have h9 := hV.1
  have hm6 := hM.1
  have hmt := hM.2.1
  have hmi := hM.2.2.1
  refine w_iload_n k188_0 rfl ?_
  have hq := out_I (by decide) hb
  refine w_tsw k188_1 (t := 138) (tsw_out hq) ?_
  refine w_iconst k188_138 ?_
  refine w_iret k188_139 mt188 (.int) rfl (rfl) ?_
  exact CQ.same hR
