/-! SPECS, 52: the model is made -/
abbrev V1c : Va := (vAdd (vAdd (vAdd (vAdd (vAdd (vAdd (vAdd (vAdd va0 0 3 0) 1 2 0) 2 4 1) 3 5 1) 0 1 2) 4 6 3) 2 2 5) 0 7 7)
abbrev M1c : Nat → Nat → Nat := mset0 (mAdd (mAdd (mAdd (mAdd mo0 4 0 102) 6 2 985) 7 5 2) 5 9 1407) 1 8
theorem V0_c : ∀ c : Fin 8, V0.2.1 c.val = V1c.2.1 c.val ∧ V0.2.2.1 c.val = V1c.2.2.1 c.val ∧ V0.2.2.2 c.val = V1c.2.2.2 c.val := by decide +kernel
theorem M0_h : M0 0 2 = 4 ∧ M0 0 1 = 8 := by decide +kernel
theorem M0_c : ∀ m : Fin 4, M0 (m.val + 1) 2 = M1c (m.val + 1) 2 ∧ M0 (m.val + 1) 0 = M1c (m.val + 1) 0 ∧ M0 (m.val + 1) 3 = M1c (m.val + 1) 3 := by decide +kernel
theorem RMd.first {f : FF} (h : RMd f V1c M1c) : RMd f V0 M0 := by
  refine ⟨h.1.trans (by rw [V0_1]; rfl), h.2.1.trans (by rw [M0_h.1]; rfl), h.2.2.1.trans (by rw [M0_h.2]; rfl), fun c hc => ?_, fun m hm => ?_⟩
  · rw [V0_1] at hc
    have e := V0_c ⟨c, hc⟩
    have h1 := h.2.2.2.1 c hc
    simp only at e
    rw [e.1, e.2.1, e.2.2]
    exact h1
  · rw [M0_h.1] at hm
    have e := M0_c ⟨m, hm⟩
    have h1 := h.2.2.2.2 m hm
    simp only at e
    rw [e.1, e.2.1, e.2.2]
    exact h1
theorem GOm_made {g : GG} : GOm (gup (gup (gup (gup (gup (gup (gup (gup (gup (gup (gup (gup (gup (gup (gup g 137 1 (some 138)) 137 6 (some 139)) 137 7 (some 140)) 137 8 (some 141)) 137 9 (some 142)) 137 10 (some 143)) 137 11 (some 144)) 137 13 (some 145)) 137 14 (some 146)) 137 15 (some 147)) 137 16 (some 148)) 137 17 (some 149)) 137 20 (some 150)) 137 22 (some 151)) 137 24 (some 152)) := by
  intro q hq
  simp only [refsM, List.mem_cons, List.not_mem_nil, or_false] at hq
  rcases hq with rfl | rfl | rfl | rfl | rfl | rfl | rfl | rfl | rfl | rfl | rfl | rfl | rfl | rfl | rfl <;> simp [gup]
set_option maxHeartbeats 1000000 in
theorem sp_X9i {S : Scr} {d : Nat} {f : FF} {g : GG} (hf : ∀ x, 137 ≤ x → ∀ k, f x k = 0) : Wp S (d + 2) 57 0 [some (.ref 137)] [] 138 f g (fun v n' f' g' => v = none ∧ n' = 153 ∧ (∀ x, x < 137 → f' x = f x) ∧ (∀ x, x < 137 → g' x = g x) ∧ MRl f' g' strT 0 V0 M0 0 uL0 0 uL0 0 mo0) := by
  refine w_aload_n k57_0 rfl rfl ?_
  refine w_obj0 k57_1 rfl ?_
  refine w_aload_n k57_4 rfl rfl ?_
  refine w_sipush k57_5 ?_
  refine w_newa k57_8 (⟨by decide, by decide⟩) (rfl) (rfl) ?_
  refine w_putr k57_10 (k := 1) (kdI (a := 137) rfl (by omega)) (by decide) ?_
  refine w_aload_n k57_13 rfl rfl ?_
  refine w_bipush k57_14 ?_
  refine w_newa k57_16 (⟨by decide, by decide⟩) (rfl) (rfl) ?_
  refine w_putr k57_18 (k := 6) (kdI (a := 137) rfl (by omega)) (by decide) ?_
  refine w_aload_n k57_21 rfl rfl ?_
  refine w_bipush k57_22 ?_
  refine w_newa k57_24 (⟨by decide, by decide⟩) (rfl) (rfl) ?_
  refine w_putr k57_26 (k := 7) (kdI (a := 137) rfl (by omega)) (by decide) ?_
  refine w_aload_n k57_29 rfl rfl ?_
  refine w_bipush k57_30 ?_
  refine w_newa k57_32 (⟨by decide, by decide⟩) (rfl) (rfl) ?_
  refine w_putr k57_34 (k := 8) (kdI (a := 137) rfl (by omega)) (by decide) ?_
  refine w_aload_n k57_37 rfl rfl ?_
  refine w_bipush k57_38 ?_
  refine w_newa k57_40 (⟨by decide, by decide⟩) (rfl) (rfl) ?_
  refine w_putr k57_42 (k := 9) (kdI (a := 137) rfl (by omega)) (by decide) ?_
  refine w_aload_n k57_45 rfl rfl ?_
  refine w_bipush k57_46 ?_
  refine w_newa k57_48 (⟨by decide, by decide⟩) (rfl) (rfl) ?_
  refine w_putr k57_50 (k := 10) (kdI (a := 137) rfl (by omega)) (by decide) ?_
  refine w_aload_n k57_53 rfl rfl ?_
  refine w_bipush k57_54 ?_
  refine w_newa k57_56 (⟨by decide, by decide⟩) (rfl) (rfl) ?_
  refine w_putr k57_58 (k := 11) (kdI (a := 137) rfl (by omega)) (by decide) ?_
  refine w_aload_n k57_61 rfl rfl ?_
  refine w_bipush k57_62 ?_
  refine w_newa k57_64 (⟨by decide, by decide⟩) (rfl) (rfl) ?_
  refine w_putr k57_66 (k := 13) (kdI (a := 137) rfl (by omega)) (by decide) ?_
  refine w_aload_n k57_69 rfl rfl ?_
  refine w_bipush k57_70 ?_
  refine w_newa k57_72 (⟨by decide, by decide⟩) (rfl) (rfl) ?_
  refine w_putr k57_74 (k := 14) (kdI (a := 137) rfl (by omega)) (by decide) ?_
  refine w_aload_n k57_77 rfl rfl ?_
  refine w_bipush k57_78 ?_
  refine w_newa k57_80 (⟨by decide, by decide⟩) (rfl) (rfl) ?_
  refine w_putr k57_82 (k := 15) (kdI (a := 137) rfl (by omega)) (by decide) ?_
  refine w_aload_n k57_85 rfl rfl ?_
  refine w_bipush k57_86 ?_
  refine w_newa k57_88 (⟨by decide, by decide⟩) (rfl) (rfl) ?_
  refine w_putr k57_90 (k := 16) (kdI (a := 137) rfl (by omega)) (by decide) ?_
  refine w_aload_n k57_93 rfl rfl ?_
  refine w_bipush k57_94 ?_
  refine w_newa k57_96 (⟨by decide, by decide⟩) (rfl) (rfl) ?_
  refine w_putr k57_98 (k := 17) (kdI (a := 137) rfl (by omega)) (by decide) ?_
  refine w_aload_n k57_101 rfl rfl ?_
  refine w_sipush k57_102 ?_
  refine w_newa k57_105 (⟨by decide, by decide⟩) (rfl) (rfl) ?_
  refine w_putr k57_107 (k := 20) (kdI (a := 137) rfl (by omega)) (by decide) ?_
  refine w_aload_n k57_110 rfl rfl ?_
  refine w_bipush k57_111 ?_
  refine w_newa k57_113 (⟨by decide, by decide⟩) (rfl) (rfl) ?_
  refine w_putr k57_115 (k := 22) (kdI (a := 137) rfl (by omega)) (by decide) ?_
  refine w_aload_n k57_118 rfl rfl ?_
  refine w_bipush k57_119 ?_
  refine w_newa k57_121 (⟨by decide, by decide⟩) (rfl) (rfl) ?_
  refine w_putr k57_123 (k := 24) (kdI (a := 137) rfl (by omega)) (by decide) ?_
  have hgo : ∀ x, x ≠ 137 → (gup (gup (gup (gup (gup (gup (gup (gup (gup (gup (gup (gup (gup (gup (gup g 137 1 (some 138)) 137 6 (some 139)) 137 7 (some 140)) 137 8 (some 141)) 137 9 (some 142)) 137 10 (some 143)) 137 11 (some 144)) 137 13 (some 145)) 137 14 (some 146)) 137 15 (some 147)) 137 16 (some 148)) 137 17 (some 149)) 137 20 (some 150)) 137 22 (some 151)) 137 24 (some 152)) x = g x := fun x hx => by funext y; rw [gup_no hx, gup_no hx, gup_no hx, gup_no hx, gup_no hx, gup_no hx, gup_no hx, gup_no hx, gup_no hx, gup_no hx, gup_no hx, gup_no hx, gup_no hx, gup_no hx, gup_no hx]
  have G := GOm_made (g := g)
  generalize (gup (gup (gup (gup (gup (gup (gup (gup (gup (gup (gup (gup (gup (gup (gup g 137 1 (some 138)) 137 6 (some 139)) 137 7 (some 140)) 137 8 (some 141)) 137 9 (some 142)) 137 10 (some 143)) 137 11 (some 144)) 137 13 (some 145)) 137 14 (some 146)) 137 15 (some 147)) 137 16 (some 148)) 137 17 (some 149)) 137 20 (some 150)) 137 22 (some 151)) 137 24 (some 152)) = g1 at G hgo ⊢
  refine w_aload_n k57_126 rfl rfl ?_
  refine w_vV k57_127 mt52 (kdI (a := 137) rfl (by omega)) ⟨rfl, by decide⟩ [] rfl rfl rfl mp_anew ?_
  have hR0 : RMd (fup (fup (fup f 137 3 0) 137 4 0) 137 5 0) va0 mo0 := ⟨by rw [fup_ne (by decide), fup_ne (by decide), fup_self]; rfl, by rw [fup_ne (by decide), fup_self]; rfl, by rw [fup_self]; rfl, fun c hc => absurd hc (Nat.not_lt_zero c), fun c hc => absurd hc (Nat.not_lt_zero c)⟩
  have hO0 : OffRd f (fup (fup (fup f 137 3 0) 137 4 0) 137 5 0) := ((OffRd.up7 (by decide)).tr (OffRd.up7 (by decide))).tr (OffRd.up7 (by decide))
  generalize fup (fup (fup f 137 3 0) 137 4 0) 137 5 0 = f0 at hR0 hO0 ⊢
  refine w_aload_n k57_130 rfl rfl ?_
  refine w_iconst k57_131 ?_
  refine w_iconst k57_132 ?_
  refine w_iconst k57_133 ?_
  refine w_vA k57_134 mt53 (kdI (a := 137) rfl (by omega)) ⟨rfl, by decide⟩ [_, _, _] rfl rfl rfl (mp_sits G hR0 (by decide) 0 3 0) ?_
  rintro _ n1 f1 g9 ⟨rfl, hn1, hg1, hO, -, hR1⟩
  obtain rfl : n1 = 153 := hn1
  obtain rfl : g1 = g9 := hg1.symm
  have hO1 := hO0.tr hO
  clear hO
  refine w_aload_n k57_137 rfl rfl ?_
  refine w_iconst k57_138 ?_
  refine w_iconst k57_139 ?_
  refine w_iconst k57_140 ?_
  refine w_vA k57_141 mt53 (kdI (a := 137) rfl (by omega)) ⟨rfl, by decide⟩ [_, _, _] rfl rfl rfl (mp_sits G hR1 (by decide) 1 2 0) ?_
  rintro _ n2 f2 g9 ⟨rfl, hn2, hg2, hO, -, hR2⟩
  obtain rfl : n2 = 153 := hn2
  obtain rfl : g1 = g9 := hg2.symm
  have hO2 := hO1.tr hO
  clear hO
  refine w_aload_n k57_144 rfl rfl ?_
  refine w_iconst k57_145 ?_
  refine w_iconst k57_146 ?_
  refine w_iconst k57_147 ?_
  refine w_vA k57_148 mt53 (kdI (a := 137) rfl (by omega)) ⟨rfl, by decide⟩ [_, _, _] rfl rfl rfl (mp_sits G hR2 (by decide) 2 4 1) ?_
  rintro _ n3 f3 g9 ⟨rfl, hn3, hg3, hO, -, hR3⟩
  obtain rfl : n3 = 153 := hn3
  obtain rfl : g1 = g9 := hg3.symm
  have hO3 := hO2.tr hO
  clear hO
  refine w_aload_n k57_151 rfl rfl ?_
  refine w_iconst k57_152 ?_
  refine w_iconst k57_153 ?_
  refine w_iconst k57_154 ?_
  refine w_vA k57_155 mt53 (kdI (a := 137) rfl (by omega)) ⟨rfl, by decide⟩ [_, _, _] rfl rfl rfl (mp_sits G hR3 (by decide) 3 5 1) ?_
  rintro _ n4 f4 g9 ⟨rfl, hn4, hg4, hO, -, hR4⟩
  obtain rfl : n4 = 153 := hn4
  obtain rfl : g1 = g9 := hg4.symm
  have hO4 := hO3.tr hO
  clear hO
  refine w_aload_n k57_158 rfl rfl ?_
  refine w_iconst k57_159 ?_
  refine w_iconst k57_160 ?_
  refine w_iconst k57_161 ?_
  refine w_vA k57_162 mt53 (kdI (a := 137) rfl (by omega)) ⟨rfl, by decide⟩ [_, _, _] rfl rfl rfl (mp_sits G hR4 (by decide) 0 1 2) ?_
  rintro _ n5 f5 g9 ⟨rfl, hn5, hg5, hO, -, hR5⟩
  obtain rfl : n5 = 153 := hn5
  obtain rfl : g1 = g9 := hg5.symm
  have hO5 := hO4.tr hO
  clear hO
  refine w_aload_n k57_165 rfl rfl ?_
  refine w_iconst k57_166 ?_
  refine w_bipush k57_167 ?_
  refine w_iconst k57_169 ?_
  refine w_vA k57_170 mt53 (kdI (a := 137) rfl (by omega)) ⟨rfl, by decide⟩ [_, _, _] rfl rfl rfl (mp_sits G hR5 (by decide) 4 6 3) ?_
  rintro _ n6 f6 g9 ⟨rfl, hn6, hg6, hO, -, hR6⟩
  obtain rfl : n6 = 153 := hn6
  obtain rfl : g1 = g9 := hg6.symm
  have hO6 := hO5.tr hO
  clear hO
  refine w_aload_n k57_173 rfl rfl ?_
  refine w_iconst k57_174 ?_
  refine w_iconst k57_175 ?_
  refine w_iconst k57_176 ?_
  refine w_vA k57_177 mt53 (kdI (a := 137) rfl (by omega)) ⟨rfl, by decide⟩ [_, _, _] rfl rfl rfl (mp_sits G hR6 (by decide) 2 2 5) ?_
  rintro _ n7 f7 g9 ⟨rfl, hn7, hg7, hO, -, hR7⟩
  obtain rfl : n7 = 153 := hn7
  obtain rfl : g1 = g9 := hg7.symm
  have hO7 := hO6.tr hO
  clear hO
  refine w_aload_n k57_180 rfl rfl ?_
  refine w_iconst k57_181 ?_
  refine w_bipush k57_182 ?_
  refine w_bipush k57_184 ?_
  refine w_vA k57_186 mt53 (kdI (a := 137) rfl (by omega)) ⟨rfl, by decide⟩ [_, _, _] rfl rfl rfl (mp_sits G hR7 (by decide) 0 7 7) ?_
  rintro _ n8 f8 g9 ⟨rfl, hn8, hg8, hO, -, hR8⟩
  obtain rfl : n8 = 153 := hn8
  obtain rfl : g1 = g9 := hg8.symm
  have hO8 := hO7.tr hO
  clear hO
  refine w_aload_n k57_189 rfl rfl ?_
  refine w_iconst k57_190 ?_
  refine w_iconst k57_191 ?_
  refine w_bipush k57_192 ?_
  refine w_vA k57_194 mt54 (kdI (a := 137) rfl (by omega)) ⟨rfl, by decide⟩ [_, _, _] rfl rfl rfl (mp_begins G hR8 (by decide) 4 0 102) ?_
  rintro _ n9 f9 g9 ⟨rfl, hn9, hg9, hO, -, hR9⟩
  obtain rfl : n9 = 153 := hn9
  obtain rfl : g1 = g9 := hg9.symm
  have hO9 := hO8.tr hO
  clear hO
  refine w_aload_n k57_197 rfl rfl ?_
  refine w_bipush k57_198 ?_
  refine w_iconst k57_200 ?_
  refine w_sipush k57_201 ?_
  refine w_vA k57_204 mt54 (kdI (a := 137) rfl (by omega)) ⟨rfl, by decide⟩ [_, _, _] rfl rfl rfl (mp_begins G hR9 (by decide) 6 2 985) ?_
  rintro _ n10 f10 g9 ⟨rfl, hn10, hg10, hO, -, hR10⟩
  obtain rfl : n10 = 153 := hn10
  obtain rfl : g1 = g9 := hg10.symm
  have hO10 := hO9.tr hO
  clear hO
  refine w_aload_n k57_207 rfl rfl ?_
  refine w_bipush k57_208 ?_
  refine w_iconst k57_210 ?_
  refine w_iconst k57_211 ?_
  refine w_vA k57_212 mt54 (kdI (a := 137) rfl (by omega)) ⟨rfl, by decide⟩ [_, _, _] rfl rfl rfl (mp_begins G hR10 (by decide) 7 5 2) ?_
  rintro _ n11 f11 g9 ⟨rfl, hn11, hg11, hO, -, hR11⟩
  obtain rfl : n11 = 153 := hn11
  obtain rfl : g1 = g9 := hg11.symm
  have hO11 := hO10.tr hO
  clear hO
  refine w_aload_n k57_215 rfl rfl ?_
  refine w_iconst k57_216 ?_
  refine w_bipush k57_217 ?_
  refine w_sipush k57_219 ?_
  refine w_vA k57_222 mt54 (kdI (a := 137) rfl (by omega)) ⟨rfl, by decide⟩ [_, _, _] rfl rfl rfl (mp_begins G hR11 (by decide) 5 9 1407) ?_
  rintro _ n12 f12 g9 ⟨rfl, hn12, hg12, hO, -, hR12⟩
  obtain rfl : n12 = 153 := hn12
  obtain rfl : g1 = g9 := hg12.symm
  have hO12 := hO11.tr hO
  clear hO
  refine w_aload_n k57_225 rfl rfl ?_
  refine w_bipush k57_226 ?_
  refine w_puti k57_228 (k := 5) (kdI (a := 137) rfl (by omega)) (by decide) ?_
  have hR13 : RMd (fup f12 137 5 8) V0 M0 := (hR12.ind (x := 8) rfl).first
  have hO13 : OffRd f (fup f12 137 5 8) := hO12.tr (OffRd.up7 (by decide))
  generalize fup f12 137 5 8 = f13 at hR13 hO13 ⊢
  have rok := rdP_ok (tx := strT) (tl := 99) 200 0 va0 mo0 va0_W mo0_W rfl
  have z : nI 0 = 0 := rfl
  have hL : MLe f13 strT 0 := ⟨by rw [hO13.2 0 (by decide)]; exact hf 137 (by decide) 0, by decide, fun i hi => absurd hi (Nat.not_lt_zero i)⟩
  have hU : MUn f13 0 uL0 := ⟨0, by decide, by rw [hO13.2 19 (by decide)]; exact hf 137 (by decide) 19, by rw [hO13.2 18 (by decide)]; exact hf 137 (by decide) 18, by decide, fun i hi => absurd hi (Nat.not_lt_zero i)⟩
  refine w_aload_n k57_231 rfl rfl ?_
  refine w_vA k57_232 mt56 (kdI (a := 137) rfl (by omega)) ⟨rfl, by decide⟩ [] rfl rfl rfl (mp_laid (V := va0) (M := mo0) (kN := 0) (kL := uL0) (sn := 0) (se := mo0) (V2 := V0) (M2 := M0) G hL hU G hR13 rok.1 (rdP_fr 200 0 va0 mo0 ⟨rfl, fun m hm => absurd hm (Nat.not_lt_zero m)⟩) rok.2.1.1) ?_
  rintro _ n14 f14 g9 ⟨rfl, hn14, hg14, hO14, hR14⟩
  obtain rfl : n14 = 153 := hn14
  obtain rfl : g1 = g9 := hg14.symm
  refine w_vret k57_235 mt57 rfl ?_
  exact ⟨rfl, rfl, fun x hx => by rw [hO14 x hx, hO13.1 x (by omega) (by omega)], fun x hx => hgo x (by omega), hR14⟩
