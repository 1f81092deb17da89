/-! SPECS, 51: the class is made, the model is made -/
theorem MoOk.of {n a : Nat} {g : GG} (hm : MoK a) (ha : a + 9 ≤ n) (h : GHas g (moL a)) : MoOk n g a := by
  refine ⟨kdI hm.1 (by omega), kdI hm.2.1 (by omega), kdI hm.2.2.1 (by omega), fun j hj => kdI (hm.2.2.2 j hj) (by omega), h (a, 0, a + 1) (by simp [moL]), h (a, 1, a + 2) (by simp [moL]), fun j hj => ?_⟩
  rcases (show j = 0 ∨ j = 1 ∨ j = 2 ∨ j = 3 ∨ j = 4 ∨ j = 5 by omega) with rfl | rfl | rfl | rfl | rfl | rfl
  · exact h (a + 1, 0, a + 3) (by simp [moL])
  · exact h (a + 1, 1, a + 4) (by simp [moL])
  · exact h (a + 1, 2, a + 5) (by simp [moL])
  · exact h (a + 1, 3, a + 6) (by simp [moL])
  · exact h (a + 1, 4, a + 7) (by simp [moL])
  · exact h (a + 1, 5, a + 8) (by simp [moL])
theorem GHas.one {g : GG} {a k v : Nat} (h : g a k = some v) : GHas g [(a, k, v)] := fun q hq => by rw [List.mem_singleton.mp hq]; exact h
theorem str_T : TxOk strT 99 := fun i hi => str_ok ⟨i, hi⟩
theorem mo_41 : ∀ j, j < 8 → MoK (39 + 2 + 9 * j) := fun j hj => by
  rcases (show j = 0 ∨ j = 1 ∨ j = 2 ∨ j = 3 ∨ j = 4 ∨ j = 5 ∨ j = 6 ∨ j = 7 by omega) with rfl | rfl | rfl | rfl | rfl | rfl | rfl | rfl <;> exact ⟨rfl, rfl, rfl, by decide +kernel⟩
theorem mo_115 : ∀ j, j < 2 → MoK (113 + 2 + 9 * j) := fun j hj => by
  rcases (show j = 0 ∨ j = 1 by omega) with rfl | rfl <;> exact ⟨rfl, rfl, rfl, by decide +kernel⟩
/-- the links behind the class's constructor -/
def GOa (g : GG) : Prop := GOk g ∧ ∀ j, j < 8 → g 40 j = some (41 + 9 * j)
def bA : Nat → Nat := fun i => 41 + 9 * i
theorem GOk.mo {g : GG} (G : GOk g) (a : Nat) (h : (moL a).all (fun q => decide (q ∈ refsC)) = true) : GHas g (moL a) := fun q hq => G q (of_decide_eq_true (List.all_eq_true.mp h q hq))
def uL0 : Nat → Nat → Nat → Nat := fun _ => mo0
theorem CR_0 {f : FF} {g : GG} (hf : ∀ x k, f x k = 0) (G : GOa g) : CR 137 f g strT 0 va0 mo0 0 uL0 0 uL0 0 mo0 := by
  have z : nI 0 = 0 := rfl
  refine ⟨G.1, ⟨(hf 2 1).trans z.symm, by decide, fun i hi => absurd hi (Nat.not_lt_zero i)⟩, ⟨(hf _ _).trans z.symm, fun c hc => absurd hc (Nat.not_lt_zero c)⟩, ⟨(hf _ _).trans z.symm, (hf _ _).trans z.symm, (hf _ _).trans z.symm, fun m hm => absurd hm (Nat.not_lt_zero m)⟩, ⟨bA, ⟨⟨kc39 (Nat.le_refl _), kc40 (Nat.le_refl _), r39_0 G.1, by decide, by decide⟩, fun i hi => ⟨G.2 i hi, ?_⟩, fun i j hi hj hij => ?_, (hf _ _).trans z.symm, by decide, fun i hi => absurd hi (Nat.not_lt_zero i)⟩, fun i hi => ⟨i, hi, rfl⟩⟩, ⟨⟨kc113 (Nat.le_refl _), kc114 (Nat.le_refl _), r113_0 G.1, by decide, by decide⟩, fun i hi => ?_, fun i j hi hj hij => ?_, (hf _ _).trans z.symm, by decide, fun i hi => absurd hi (Nat.not_lt_zero i)⟩, ⟨(hf _ _).trans z.symm, by decide, fun i hi => absurd hi (Nat.not_lt_zero i)⟩⟩
  · have e : bA i = 39 + 2 + 9 * i := by unfold bA; omega
    rw [e]
    refine MoOk.of (mo_41 i hi) (by omega) (G.1.mo _ ?_)
    rcases (show i = 0 ∨ i = 1 ∨ i = 2 ∨ i = 3 ∨ i = 4 ∨ i = 5 ∨ i = 6 ∨ i = 7 by omega) with rfl | rfl | rfl | rfl | rfl | rfl | rfl | rfl <;> decide +kernel
  · show 41 + 9 * i + 9 ≤ 41 + 9 * j ∨ 41 + 9 * j + 9 ≤ 41 + 9 * i
    omega
  · rcases (show i = 0 ∨ i = 1 by omega) with rfl | rfl
    · exact ⟨r114_0 G.1, MoOk.of (a := 115) (mo_115 0 (by decide)) (by decide) (G.1.mo _ (by decide +kernel))⟩
    · exact ⟨r114_1 G.1, MoOk.of (a := 124) (mo_115 1 (by decide)) (by decide) (G.1.mo _ (by decide +kernel))⟩
  · show 115 + 9 * i + 9 ≤ 115 + 9 * j ∨ 115 + 9 * j + 9 ≤ 115 + 9 * i
    omega
theorem StW_0 {tl : Nat} (h : tl ≤ 99) : StW 0 strT tl va0 mo0 0 uL0 0 uL0 0 mo0 := ⟨fun i hi => str_T i (by omega), va0_W, ⟨mo0_W, Nat.le_refl 0⟩, fun i hi => absurd hi (Nat.not_lt_zero i), fun i hi => absurd hi (Nat.not_lt_zero i), fun i hi => absurd hi (Nat.not_lt_zero i)⟩
abbrev V0 : Va := (rdP strT 99 200 0 va0 mo0).2.1
abbrev M0 : Nat → Nat → Nat := (rdP strT 99 200 0 va0 mo0).2.2
theorem rd_0 : (rdP strT 99 200 0 va0 mo0).1 = none := by decide +kernel
theorem V0_1 : V0.1 = 8 := by decide +kernel
set_option maxHeartbeats 1000000 in
theorem lp_str {S : Scr} {d : Nat} {f : FF} {g : GG} (hf : ∀ x k, f x k = 0) (G0 : GOa g) : ∀ (t i : Nat) (f1 : FF), t + i = 99 → (∀ x, x ≠ 2 → x ≠ 3 → f1 x = f x) → CLe f1 strT i → Wp S (d + 6) 51 97 [some (.ref 0), some (.int (nI i))] [] 137 f1 g (fun v n' f' g' => v = none ∧ n' = 137 ∧ (∀ x, 137 ≤ x → f' x = f x) ∧ CR 137 f' g' strT 0 V0 M0 0 uL0 0 uL0 0 mo0) := by
  have G := G0.1
  have hn : 137 ≤ 137 := Nat.le_refl _
  have hR0 := CR_0 hf G0
  intro t
  induction t with
  | zero =>
    intro i f1 e0 e1 e2
    obtain rfl : i = 99 := by omega
    have hR := hR0.le (StW_0 (by decide)) e1 e2
    have hW := StW_0 (tl := 99) (Nat.le_refl _)
    have rok := rdP_ok (tx := strT) (tl := 99) 200 0 va0 mo0 va0_W mo0_W rfl
    refine w_iload_n k51_97 rfl ?_
    refine w_ldcs k51_98 ?_
    refine w_vSI k51_100 mt9 rfl [] rfl rfl rfl sp_strlen ?_
    refine w_icmp_ge k51_103 (fun h103 => ?_) (fun h103 => absurd (nI_le (Nat.le_refl 99) (by omega)) h103)
    refine w_aload_n k51_126 rfl rfl ?_
    refine w_getr k51_127 (k := 0) (kc0 hn) (by decide) (r0_0 G) ?_
    refine w_vA k51_130 mt39 (kc1 hn) ⟨rfl, by decide⟩ [] rfl rfl rfl (sp_read hn G hR.2.1 hW.1) ?_
    rintro _ _ f2 _ ⟨rfl, rfl, rfl, hO, hr⟩
    have hR2 := CR.eq hR hW (fun x hx => hO x (by omega))
    have hr2 := hr rd_0
    refine w_bipush k51_133 ?_
    refine w_icmp_ne k51_135 (fun h135 => absurd (by rw [rd_0]; rfl) h135) (fun h135 => ?_)
    refine w_aload_n k51_138 rfl rfl ?_
    refine w_vA k51_139 mt49 (kc0 hn) ⟨rfl, by decide⟩ [] rfl rfl rfl (sp_layW hn G hR2 hW hr2.1 hr2.2 rok.1 rok.2.1.1) ?_
    rintro _ _ f3 _ ⟨rfl, rfl, hO3, rfl, hR3⟩
    have hW3 : StW 0 strT 99 V0 M0 0 uL0 0 uL0 0 mo0 := ⟨str_T, rok.1, ⟨rok.2.1, Nat.le_of_eq rok.2.2⟩, fun i hi => absurd hi (Nat.not_lt_zero i), fun i hi => absurd hi (Nat.not_lt_zero i), fun i hi => absurd hi (Nat.not_lt_zero i)⟩
    refine w_aload_n k51_142 rfl rfl ?_
    refine w_getr k51_143 (k := 1) (kc0 hn) (by decide) (r0_1 G) ?_
    refine w_vV k51_146 mt50 (kc2 hn) ⟨rfl, by decide⟩ [] rfl rfl rfl (sp_Lclear hn) ?_
    refine w_vret k51_149 mt51 rfl ?_
    exact ⟨rfl, rfl, fun x hx => by funext y; rw [fup_no (by omega), hO3 x (by omega), hO x (by omega), e1 x (by omega) (by omega)], hR3.le hW3 (fun x h1 h2 => by funext y; exact fup_no h1) ⟨fup_self, Nat.zero_le _, fun i hi => absurd hi (Nat.not_lt_zero i)⟩⟩
  | succ t ih =>
    intro i f1 e0 e1 e2
    refine w_iload_n k51_97 rfl ?_
    refine w_ldcs k51_98 ?_
    refine w_vSI k51_100 mt9 rfl [] rfl rfl rfl sp_strlen ?_
    refine w_icmp_ge k51_103 (fun h103 => absurd h103 (nI_ge (b := 99) (by omega) (by omega))) (fun h103 => ?_)
    refine w_aload_n k51_106 rfl rfl ?_
    refine w_getr k51_107 (k := 1) (kc0 hn) (by decide) (r0_1 G) ?_
    refine w_ldcs k51_110 ?_
    refine w_iload_n k51_112 rfl ?_
    refine w_vSI k51_113 mt14 rfl [_] rfl rfl rfl (sp_chAt (by omega)) ?_
    refine w_vA k51_116 mt16 (kc2 hn) ⟨rfl, by decide⟩ [_] rfl rfl rfl (sp_Ladd2 hn G e2) ?_
    rintro _ _ f2 _ ⟨rfl, rfl, rfl, hO, hL2⟩
    rw [if_pos (by omega), if_pos (by omega)] at hL2
    refine w_pop k51_119 rfl ?_
    refine w_iinc k51_120 rfl (ls' := [_, _]) rfl ?_
    refine w_goto k51_123 ?_
    rw [nI_1]
    refine ih (i + 1) f2 (by omega) (fun x h1 h2 => by rw [hO x h1 h2, e1 x h1 h2]) ?_
    have e : txA strT i (strT i) = strT := by
      funext j
      unfold txA
      split
      · rename_i hj; rw [hj]
      · rfl
    rw [e] at hL2
    exact hL2
def allL : List (Nat × Nat × Nat) := ((0, 7, 133) :: ((133, 2, 136) :: ((133, 1, 135) :: ((133, 0, 134) :: ((0, 6, 113) :: (((0, 5, 39) :: (((0, 4, 30) :: (((0, 3, 21) :: (((0, 2, 17) :: ((17, 2, 20) :: ((17, 1, 19) :: ((17, 0, 18) :: ((0, 1, 2) :: ((0, 0, 1) :: ([(1, 0, 2), (2, 0, 3), (1, 1, 4), (1, 2, 8), (4, 0, 5), (4, 1, 6), (4, 2, 7)] ++ moL 8))))))) ++ moL 21)) ++ moL 30)) ++ (((((((([(39, 0, 40)] ++ ([(40, 0, 41)] ++ moL 41)) ++ ([(40, 1, 50)] ++ moL 50)) ++ ([(40, 2, 59)] ++ moL 59)) ++ ([(40, 3, 68)] ++ moL 68)) ++ ([(40, 4, 77)] ++ moL 77)) ++ ([(40, 5, 86)] ++ moL 86)) ++ ([(40, 6, 95)] ++ moL 95)) ++ ([(40, 7, 104)] ++ moL 104)))) ++ (([(113, 0, 114)] ++ ([(114, 0, 115)] ++ moL 115)) ++ ([(114, 1, 124)] ++ moL 124))))))))
theorem all_in : ∀ q ∈ refsC, q ∈ allL := by decide +kernel
set_option maxHeartbeats 1000000 in
theorem sp_X8i {S : Scr} {d : Nat} {f : FF} {g : GG} (hf : ∀ x k, f x k = 0) : Wp S (d + 6) 51 0 [some (.ref 0), none] [] 1 f g (fun v n' f' g' => v = none ∧ n' = 137 ∧ (∀ x, 137 ≤ x → f' x = f x) ∧ CR 137 f' g' strT 0 V0 M0 0 uL0 0 uL0 0 mo0) := by
  refine w_aload_n k51_0 rfl rfl ?_
  refine w_obj0 k51_1 rfl ?_
  refine w_aload_n k51_4 rfl rfl ?_
  refine w_new k51_5 (rfl) (by decide) ?_
  refine w_dup k51_8 rfl ?_
  refine w_iA k51_9 (by decide) mt4 (kdI (a := 1) rfl (by omega)) ⟨rfl, by decide, rfl, rfl⟩ [] rfl rfl rfl sp_X4i ?_
  rintro _ _ _ g2 ⟨rfl, rfl, rfl, hO, hH⟩
  refine w_putr k51_12 (k := 0) (kdI (a := 0) rfl (by omega)) (by decide) ?_
  have H1 := hH.up (a := 0) (k := 0) (v := 1) (by decide)
  generalize gup g2 0 0 (some 1) = g1 at H1 ⊢
  refine w_aload_n k51_15 rfl rfl ?_
  refine w_aload_n k51_16 rfl rfl ?_
  refine w_getr k51_17 (k := 0) (kdI (a := 0) rfl (by omega)) (by decide) (H1 (0, 0, 1) (by decide +kernel)) ?_
  refine w_getr k51_20 (k := 0) (kdI (a := 1) rfl (by omega)) (by decide) (H1 (1, 0, 2) (by decide +kernel)) ?_
  refine w_putr k51_23 (k := 1) (kdI (a := 0) rfl (by omega)) (by decide) ?_
  have H3 := H1.up (a := 0) (k := 1) (v := 2) (by decide)
  generalize gup g1 0 1 (some 2) = g3 at H3 ⊢
  refine w_aload_n k51_26 rfl rfl ?_
  refine w_new k51_27 (rfl) (by decide) ?_
  refine w_dup k51_30 rfl ?_
  refine w_iV k51_31 (by decide) mt1 (kdI (a := 17) rfl (by omega)) ⟨rfl, by decide, rfl, rfl⟩ [] rfl rfl rfl (sp_X7i 17 ⟨rfl, rfl, rfl, rfl⟩) ?_
  have H4 := ((H3.up (a := 17) (k := 0) (v := 18) (by decide)).up (a := 17) (k := 1) (v := 19) (by decide)).up (a := 17) (k := 2) (v := 20) (by decide)
  refine w_putr k51_34 (k := 2) (kdI (a := 0) rfl (by omega)) (by decide) ?_
  have H5 := H4.up (a := 0) (k := 2) (v := 17) (by decide)
  generalize gup (gup (gup (gup g3 17 0 (some 18)) 17 1 (some 19)) 17 2 (some 20)) 0 2 (some 17) = g5 at H5 ⊢
  refine w_aload_n k51_37 rfl rfl ?_
  refine w_new k51_38 (rfl) (by decide) ?_
  refine w_dup k51_41 rfl ?_
  refine w_iA k51_42 (by decide) mt3 (kdI (a := 21) rfl (by omega)) ⟨rfl, by decide, rfl, rfl⟩ [] rfl rfl rfl (sp_X2i 21 ⟨rfl, rfl, rfl, by decide +kernel⟩) ?_
  rintro _ _ _ g6 ⟨rfl, rfl, rfl, hO6, m1, m2, m3⟩
  have H6 := (H5.keep (a := 21) (fun x hx => hO6 x (by omega) (by omega)) (by decide)).add (moL_has (a := 21) m1 m2 m3)
  refine w_putr k51_45 (k := 3) (kdI (a := 0) rfl (by omega)) (by decide) ?_
  have H7 := H6.up (a := 0) (k := 3) (v := 21) (by decide)
  generalize gup g6 0 3 (some 21) = g7 at H7 ⊢
  refine w_aload_n k51_48 rfl rfl ?_
  refine w_new k51_49 (rfl) (by decide) ?_
  refine w_dup k51_52 rfl ?_
  refine w_iA k51_53 (by decide) mt3 (kdI (a := 30) rfl (by omega)) ⟨rfl, by decide, rfl, rfl⟩ [] rfl rfl rfl (sp_X2i 30 ⟨rfl, rfl, rfl, by decide +kernel⟩) ?_
  rintro _ _ _ g8 ⟨rfl, rfl, rfl, hO8, m1, m2, m3⟩
  have H8 := (H7.keep (a := 30) (fun x hx => hO8 x (by omega) (by omega)) (by decide)).add (moL_has (a := 30) m1 m2 m3)
  refine w_putr k51_56 (k := 4) (kdI (a := 0) rfl (by omega)) (by decide) ?_
  have H9 := H8.up (a := 0) (k := 4) (v := 30) (by decide)
  generalize gup g8 0 4 (some 30) = g9 at H9 ⊢
  refine w_aload_n k51_59 rfl rfl ?_
  refine w_new k51_60 (rfl) (by decide) ?_
  refine w_dup k51_63 rfl ?_
  refine w_bipush k51_64 ?_
  refine w_iA k51_66 (by decide) mt6 (kdI (a := 39) rfl (by omega)) ⟨rfl, by decide, rfl, rfl⟩ [_] rfl rfl rfl (sp_X3i 39 8 (by decide) ⟨rfl, rfl, mo_41⟩) ?_
  rintro _ n10 _ g10 ⟨rfl, hn10, rfl, hO10, p0, pj⟩
  obtain rfl : n10 = 113 := hn10
  have H10 := (H9.keep (a := 39) hO10 (by decide)).add (((((((((GHas.one p0).add ((GHas.one (v := 41) (pj 0 (by omega)).1).add (l2 := moL 41) (pj 0 (by omega)).2)).add ((GHas.one (v := 50) (pj 1 (by omega)).1).add (l2 := moL 50) (pj 1 (by omega)).2)).add ((GHas.one (v := 59) (pj 2 (by omega)).1).add (l2 := moL 59) (pj 2 (by omega)).2)).add ((GHas.one (v := 68) (pj 3 (by omega)).1).add (l2 := moL 68) (pj 3 (by omega)).2)).add ((GHas.one (v := 77) (pj 4 (by omega)).1).add (l2 := moL 77) (pj 4 (by omega)).2)).add ((GHas.one (v := 86) (pj 5 (by omega)).1).add (l2 := moL 86) (pj 5 (by omega)).2)).add ((GHas.one (v := 95) (pj 6 (by omega)).1).add (l2 := moL 95) (pj 6 (by omega)).2)).add ((GHas.one (v := 104) (pj 7 (by omega)).1).add (l2 := moL 104) (pj 7 (by omega)).2))
  clear p0 pj
  refine w_putr k51_69 (k := 5) (kdI (a := 0) rfl (by omega)) (by decide) ?_
  have H11 := H10.up (a := 0) (k := 5) (v := 39) (by decide)
  generalize gup g10 0 5 (some 39) = g11 at H11 ⊢
  refine w_aload_n k51_72 rfl rfl ?_
  refine w_new k51_73 (rfl) (by decide) ?_
  refine w_dup k51_76 rfl ?_
  refine w_iconst k51_77 ?_
  refine w_iA k51_78 (by decide) mt6 (kdI (a := 113) rfl (by omega)) ⟨rfl, by decide, rfl, rfl⟩ [_] rfl rfl rfl (sp_X3i 113 2 (by decide) ⟨rfl, rfl, mo_115⟩) ?_
  rintro _ n12 _ g12 ⟨rfl, hn12, rfl, hO12, p0, pj⟩
  obtain rfl : n12 = 133 := hn12
  have H12 := (H11.keep (a := 113) hO12 (by decide)).add (((GHas.one p0).add ((GHas.one (v := 115) (pj 0 (by omega)).1).add (l2 := moL 115) (pj 0 (by omega)).2)).add ((GHas.one (v := 124) (pj 1 (by omega)).1).add (l2 := moL 124) (pj 1 (by omega)).2))
  clear p0 pj
  refine w_putr k51_81 (k := 6) (kdI (a := 0) rfl (by omega)) (by decide) ?_
  have H13 := H12.up (a := 0) (k := 6) (v := 113) (by decide)
  generalize gup g12 0 6 (some 113) = g13 at H13 ⊢
  refine w_aload_n k51_84 rfl rfl ?_
  refine w_new k51_85 (rfl) (by decide) ?_
  refine w_dup k51_88 rfl ?_
  refine w_iV k51_89 (by decide) mt7 (kdI (a := 133) rfl (by omega)) ⟨rfl, by decide, rfl, rfl⟩ [] rfl rfl rfl (sp_X6i 133 ⟨rfl, rfl, rfl, rfl⟩) ?_
  have H14 := ((H13.up (a := 133) (k := 0) (v := 134) (by decide)).up (a := 133) (k := 1) (v := 135) (by decide)).up (a := 133) (k := 2) (v := 136) (by decide)
  refine w_putr k51_92 (k := 7) (kdI (a := 0) rfl (by omega)) (by decide) ?_
  have H15 := H14.up (a := 0) (k := 7) (v := 133) (by decide)
  generalize gup (gup (gup (gup g13 133 0 (some 134)) 133 1 (some 135)) 133 2 (some 136)) 0 7 (some 133) = g15 at H15 ⊢
  refine w_iconst k51_95 ?_
  refine w_istore_n k51_96 (ls' := [_, _]) rfl ?_
  have G0 : GOa g15 := ⟨fun q hq => H15 q (all_in q hq), fun j hj => by
    rcases (show j = 0 ∨ j = 1 ∨ j = 2 ∨ j = 3 ∨ j = 4 ∨ j = 5 ∨ j = 6 ∨ j = 7 by omega) with rfl | rfl | rfl | rfl | rfl | rfl | rfl | rfl
    · exact H15 (40, 0, 41) (by decide +kernel)
    · exact H15 (40, 1, 50) (by decide +kernel)
    · exact H15 (40, 2, 59) (by decide +kernel)
    · exact H15 (40, 3, 68) (by decide +kernel)
    · exact H15 (40, 4, 77) (by decide +kernel)
    · exact H15 (40, 5, 86) (by decide +kernel)
    · exact H15 (40, 6, 95) (by decide +kernel)
    · exact H15 (40, 7, 104) (by decide +kernel)⟩
  exact lp_str hf G0 99 0 _ (by omega) (fun _ _ _ => rfl) ⟨hf 2 1, by decide, fun i hi => absurd hi (Nat.not_lt_zero i)⟩
