/-! SPECS, 19: lay, write, knit -/
theorem PiR.cl {n : Nat} {f f' : FF} {g : GG} {p q C sz : Nat} {b : Nat → Nat} {L : Nat → Nat → Nat → Nat} (h : PiR n f g p q C b sz L) (h1 : f' p 1 = nI 0) : PiR n f' g p q C b 0 L := ⟨h.1, h.2.1, h.2.2.1, h1, Nat.zero_le _, fun i hi => absurd hi (Nat.not_lt_zero i)⟩
set_option maxHeartbeats 1000000 in
theorem sp_layW {S : Scr} {d : Nat} {f : FF} {g : GG} {n B : Nat} {tx : Nat → Nat} {tl : Nat} {V : Va} {M : Nat → Nat → Nat} {uN : Nat} {uL : Nat → Nat → Nat → Nat} {kN : Nat} {kL : Nat → Nat → Nat → Nat} {sn : Nat} {se : Nat → Nat → Nat} (hn : 137 ≤ n) (G : GOk g) (hR : CR n f g tx tl V M uN uL kN kL sn se) (hW : StW B tx tl V M uN uL kN kL sn se) {V2 : Va} {M2 : Nat → Nat → Nat} (hC4 : CVa f 4 V2) (hM8 : CMo f 8 M2) (hV2 : VWf V2) (hM6 : M2 0 2 ≤ 6) : Wp S (d + 3) 49 0 [some (.ref 0)] [] n f g (fun v n' f' g' => v = none ∧ n' = n ∧ (∀ x, 137 ≤ x → f' x = f x) ∧ g' = g ∧ CR n f' g tx tl V2 M2 0 uL 0 kL 0 se) := by
  refine w_aload_n k49_0 rfl rfl ?_
  refine w_getr k49_1 (k := 2) (kc0 hn) (by decide) (r0_2 G) ?_
  refine w_aload_n k49_4 rfl rfl ?_
  refine w_getr k49_5 (k := 0) (kc0 hn) (by decide) (r0_0 G) ?_
  refine w_getr k49_8 (k := 1) (kc1 hn) (by decide) (r1_1 G) ?_
  refine w_vA k49_11 mt44 (kc17 hn) ⟨rfl, by decide⟩ [_] rfl rfl rfl (sp_Vcopy (va17 hn G) (va4 hn G) hC4 hV2 (by omega)) ?_
  rintro _ _ f2 _ ⟨rfl, rfl, rfl, hO, hQ⟩
  refine w_aload_n k49_14 rfl rfl ?_
  refine w_getr k49_15 (k := 3) (kc0 hn) (by decide) (r0_3 G) ?_
  refine w_aload_n k49_18 rfl rfl ?_
  refine w_getr k49_19 (k := 0) (kc0 hn) (by decide) (r0_0 G) ?_
  refine w_getr k49_22 (k := 2) (kc1 hn) (by decide) (r1_2 G) ?_
  refine w_vA k49_25 mt46 (kc21 hn) ⟨rfl, by decide⟩ [_] rfl rfl rfl (sp_copy (mo21 hn G) (mo8 hn G) (hM8.eq hM6 (fun x h1 h2 => hO x (by omega))) hM6 (by omega)) ?_
  rintro _ _ f3 _ ⟨rfl, rfl, rfl, hO2, hQ2⟩
  refine w_aload_n k49_28 rfl rfl ?_
  refine w_getr k49_29 (k := 7) (kc0 hn) (by decide) (r0_7 G) ?_
  refine w_vV k49_32 mt47 (kc133 hn) ⟨rfl, by decide⟩ [] rfl rfl rfl (sp_Sclear hn) ?_
  refine w_aload_n k49_35 rfl rfl ?_
  refine w_getr k49_36 (k := 5) (kc0 hn) (by decide) (r0_5 G) ?_
  refine w_vV k49_39 mt48 (kc39 hn) ⟨rfl, by decide⟩ [] rfl rfl rfl (sp_Pclear (kc39 hn)) ?_
  refine w_aload_n k49_42 rfl rfl ?_
  refine w_getr k49_43 (k := 6) (kc0 hn) (by decide) (r0_6 G) ?_
  refine w_vV k49_46 mt48 (kc113 hn) ⟨rfl, by decide⟩ [] rfl rfl rfl (sp_Pclear (kc113 hn)) ?_
  refine w_vret k49_49 mt49 rfl ?_
  obtain ⟨h0, h1, h2, h3, ⟨b, h4, hb⟩, h5, h6⟩ := hR
  have hf : ∀ x, x ≠ 133 → x ≠ 39 → x ≠ 113 → fup (fup (fup f3 133 3 0) 39 1 0) 113 1 0 x = f3 x := fun x a1 a2 a3 => by funext y; rw [fup_no a3, fup_no a2, fup_no a1]
  refine ⟨rfl, rfl, fun x hx => by rw [hf x (by omega) (by omega) (by omega), hO2 x (by omega), hO x (by omega)], rfl, h0, ?_, ?_, ?_, ⟨b, h4.cl ?_, hb⟩, h5.cl ?_, ?_⟩
  · exact h1.eq (fun x hx => by rw [hf x (by omega) (by omega) (by omega), hO2 x (by omega), hO x (by omega)])
  · exact (hQ.mo hO2 (by omega)).off (hf _ (by omega) (by omega) (by omega)) (hf _ (by omega) (by omega) (by omega)) (hf _ (by omega) (by omega) (by omega)) (hf _ (by omega) (by omega) (by omega))
  · exact hQ2.eq hM6 (fun x hx hy => hf x (by omega) (by omega) (by omega))
  · rw [fup_no (by omega), fup_self]
    rfl
  · rw [fup_self]
    rfl
  · exact ⟨by rw [fup_no (by omega), fup_no (by omega), fup_self]; rfl, Nat.zero_le _, fun i hi => absurd hi (Nat.not_lt_zero i)⟩
theorem rdV_4 {r : Option Nat} (h : rdV r = -4) (hp : ∀ p, r = some p → p < 2 ^ 31) : r = none := by
  cases r with
  | none => rfl
  | some p =>
    have h1 := nI_pos (hp p rfl)
    rw [show nI p = -4 from h] at h1
    exact absurd (by decide) h1
theorem rdP_lt {tx : Nat → Nat} {tl : Nat} : ∀ t p V M q, (rdP tx tl t p V M).1 = some q → q < tl := by
  intro t
  induction t with
  | zero => intro p V M q h; cases h
  | succ t ih =>
    intro p V M q h
    unfold rdP at h
    split at h
    · split at h
      · rename_i hp _ _
        have h2 := Option.some.inj h
        omega
      · exact ih _ _ _ _ h
    · cases h
set_option maxHeartbeats 1000000 in
theorem sp_lay {S : Scr} {d : Nat} {f : FF} {g : GG} {n B : Nat} {tx : Nat → Nat} {tl : Nat} {V : Va} {M : Nat → Nat → Nat} {uN : Nat} {uL : Nat → Nat → Nat → Nat} {kN : Nat} {kL : Nat → Nat → Nat → Nat} {sn : Nat} {se : Nat → Nat → Nat} (hn : 137 ≤ n) (G : GOk g) (hR : CR n f g tx tl V M uN uL kN kL sn se) (hW : StW B tx tl V M uN uL kN kL sn se) : Wp S (d + 6) 73 0 [some (.ref 0)] [] n f g (fun v n' f' g' => if (rdP tx tl 200 0 va0 mo0).1 = none ∧ (rdP tx tl 200 0 va0 mo0).2.1.1 ≠ 0 then CQ n f g (nI (rdP tx tl 200 0 va0 mo0).2.1.1) tx tl (rdP tx tl 200 0 va0 mo0).2.1 (rdP tx tl 200 0 va0 mo0).2.2 0 uL 0 kL 0 se v n' f' g' else CQ n f g (-2) tx tl V M uN uL kN kL sn se v n' f' g') := by
  refine w_aload_n k73_0 rfl rfl ?_
  refine w_getr k73_1 (k := 0) (kc0 hn) (by decide) (r0_0 G) ?_
  have rok := rdP_ok (tx := tx) (tl := tl) 200 0 va0 mo0 va0_W mo0_W rfl
  have r99 := rok.1.1
  have h200 := hR.2.1.2.1
  refine w_vA k73_4 mt39 (kc1 hn) ⟨rfl, by decide⟩ [] rfl rfl rfl (sp_read hn G hR.2.1 hW.1) ?_
  rintro _ _ f2 _ ⟨rfl, rfl, rfl, hO, hr⟩
  have hR2 := CR.eq hR hW (fun x hx => hO x (by omega))
  refine w_bipush k73_7 ?_
  refine w_icmp_ne k73_9 (fun h9 => ?_) (fun h9 => ?_)
  ·
    have hz : ¬ (rdP tx tl 200 0 va0 mo0).1 = none := fun hh => h9 (by rw [hh]; rfl)
    refine w_bipush k73_25 ?_
    refine w_iret k73_27 mt73 (.int) rfl (rfl) ?_
    skip
    first
      | (rw [if_neg (fun hh => hz hh.1)]; exact ⟨rfl, rfl, fun x hx => hO x (by omega), fun _ _ => rfl, hR2⟩)
      | (rw [if_neg (fun hh => hh.2 hy)]; exact ⟨rfl, rfl, fun x hx => hO x (by omega), fun _ _ => rfl, hR2⟩)
      | (rw [if_pos ⟨hz, hy⟩]; exact ⟨rfl, rfl, fun x hx => by rw [hO3 x hx, hO x (by omega)], fun _ _ => rfl, hR3⟩)
  ·
    have hz : (rdP tx tl 200 0 va0 mo0).1 = none := rdV_4 h9 (fun p hp => by have := rdP_lt _ _ _ _ _ hp; omega)
    have hr2 := hr hz
    refine w_aload_n k73_12 rfl rfl ?_
    refine w_getr k73_13 (k := 0) (kc0 hn) (by decide) (r0_0 G) ?_
    refine w_getr k73_16 (k := 1) (kc1 hn) (by decide) (r1_1 G) ?_
    refine w_vI k73_19 mt72 (kc4 hn) ⟨rfl, by decide⟩ [] rfl rfl rfl (sp_Vsize (va4 hn G) hr2.1) ?_
    refine w_if_ne k73_22 (fun h22 => ?_) (fun h22 => ?_)
    ·
      have hy : (rdP tx tl 200 0 va0 mo0).2.1.1 ≠ 0 := fun hh => h22 (by rw [hh]; rfl)
      refine w_aload_n k73_28 rfl rfl ?_
      refine w_vA k73_29 mt49 (kc0 hn) ⟨rfl, by decide⟩ [] rfl rfl rfl (sp_layW hn G hR2 hW hr2.1 hr2.2 rok.1 rok.2.1.1) ?_
      rintro _ _ f3 _ ⟨rfl, rfl, hO3, rfl, hR3⟩
      refine w_aload_n k73_32 rfl rfl ?_
      refine w_getr k73_33 (k := 2) (kc0 hn) (by decide) (r0_2 G) ?_
      refine w_vI k73_36 mt72 (kc17 hn) ⟨rfl, by decide⟩ [] rfl rfl rfl (sp_Vsize (va17 hn G) hR3.2.2.1) ?_
      refine w_iret k73_39 mt73 (.int) rfl (rfl) ?_
      skip
      first
        | (rw [if_neg (fun hh => hz hh.1)]; exact ⟨rfl, rfl, fun x hx => hO x (by omega), fun _ _ => rfl, hR2⟩)
        | (rw [if_neg (fun hh => hh.2 hy)]; exact ⟨rfl, rfl, fun x hx => hO x (by omega), fun _ _ => rfl, hR2⟩)
        | (rw [if_pos ⟨hz, hy⟩]; exact ⟨rfl, rfl, fun x hx => by rw [hO3 x hx, hO x (by omega)], fun _ _ => rfl, hR3⟩)
    ·
      have hy : (rdP tx tl 200 0 va0 mo0).2.1.1 = 0 := (nI_eq (b := 0) (by omega) (by omega)).mp h22
      refine w_bipush k73_25 ?_
      refine w_iret k73_27 mt73 (.int) rfl (rfl) ?_
      skip
      first
        | (rw [if_neg (fun hh => hz hh.1)]; exact ⟨rfl, rfl, fun x hx => hO x (by omega), fun _ _ => rfl, hR2⟩)
        | (rw [if_neg (fun hh => hh.2 hy)]; exact ⟨rfl, rfl, fun x hx => hO x (by omega), fun _ _ => rfl, hR2⟩)
        | (rw [if_pos ⟨hz, hy⟩]; exact ⟨rfl, rfl, fun x hx => by rw [hO3 x hx, hO x (by omega)], fun _ _ => rfl, hR3⟩)
