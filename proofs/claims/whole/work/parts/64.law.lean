/-! SPECS, 54: the law -/
theorem lt_5 {i L : Nat} (hi : i < 2 ^ 30) (hL : L < 2 ^ 30) : nI L - 5 < nI i ↔ L < i + 5 := by
  rw [Int32.lt_iff_toInt_lt, show (5 : Int32) = nI 5 from rfl, pk_sub_toInt hL (by decide), nI_toInt (by omega)]
  omega
set_option maxHeartbeats 4000000 in
theorem ml_law {S : Scr} (hS : S.2 ≤ 320) : ∀ (t i : Nat) (f : FF) (g : GG) (tx : Nat → Nat) (tl : Nat) (V : Va) (M : Nat → Nat → Nat) (uN : Nat) (uL : Nat → Nat → Nat → Nat) (kN : Nat) (kL : Nat → Nat → Nat → Nat) (sn : Nat) (se : Nat → Nat → Nat), S.2 ≤ i + 5 * t → i ≤ 325 → CR 153 f g tx tl V M uN uL kN kL sn se → MRl f g tx tl V M uN uL kN kL sn se → StX (12 * i) tx tl V M uN uL kN kL sn se → Wp S 40 191 18 [some (.float 0), some (.ref 0), some (.ref 137), some (.int (nI i))] [] 153 f g (fun v n' _ _ => v = some (.int 1) ∧ n' = 153) := by
  intro t
  induction t with
  | zero =>
    intro i f g tx tl V M uN uL kN kL sn se e0 e1 hR hMd hX
    refine w_iload_n k191_18 rfl ?_
    refine w_aload_n k191_19 rfl rfl ?_
    refine w_slen k191_20 ?_
    refine w_iconst k191_21 ?_
    refine w_isub k191_22 ?_
    refine w_icmp_gt k191_23 (fun h23 => ?_) (fun h23 => absurd ((lt_5 (by omega) (by omega)).mpr (by omega)) h23)
    refine w_iconst k191_910 ?_
    refine w_iret k191_911 mt191 (.boolean) rfl (rfl) ?_
    exact ⟨rfl, rfl⟩
  | succ t ih =>
    intro i f g tx tl V M uN uL kN kL sn se e0 e1 hR hMd hX
    refine w_iload_n k191_18 rfl ?_
    refine w_aload_n k191_19 rfl rfl ?_
    refine w_slen k191_20 ?_
    refine w_iconst k191_21 ?_
    refine w_isub k191_22 ?_
    refine w_icmp_gt k191_23 (fun h23 => ?_) (fun h23 => ?_)
    ·
      have hlt := (lt_5 (by omega) (by omega)).mp h23
      refine w_iconst k191_910 ?_
      refine w_iret k191_911 mt191 (.boolean) rfl (rfl) ?_
      exact ⟨rfl, rfl⟩
    ·
      have hlt := fun hh => h23 ((lt_5 (by omega) (by omega)).mpr hh)
      have hi5 : i + 5 ≤ S.2 := Nat.not_lt.mp hlt
      refine w_aload_n k191_26 rfl rfl ?_
      refine w_iload_n k191_27 rfl ?_
      refine w_sld k191_28 (nI_pos (by omega)) (nI_clamp (by omega)) (by omega) ?_
      refine w_bipush k191_29 ?_
      refine w_iand k191_31 ?_
      obtain ⟨j, hj, ej⟩ := pk_andE (S.1 i) (m := 31) 5 (by decide)
      rw [ej]
      rcases (show j = 0 ∨ j = 1 ∨ j = 2 ∨ j = 3 ∨ j = 4 ∨ j = 5 ∨ j = 6 ∨ j = 7 ∨ j = 8 ∨ j = 9 ∨ j = 10 ∨ j = 11 ∨ j = 12 ∨ j = 13 ∨ j = 14 ∨ j = 15 ∨ j = 16 ∨ j = 17 ∨ j = 18 ∨ j = 19 ∨ j = 20 ∨ j = 21 ∨ j = 22 ∨ j = 23 ∨ j = 24 ∨ j = 25 ∨ j = 26 ∨ j = 27 ∨ 28 ≤ j by omega) with rfl | rfl | rfl | rfl | rfl | rfl | rfl | rfl | rfl | rfl | rfl | rfl | rfl | rfl | rfl | rfl | rfl | rfl | rfl | rfl | rfl | rfl | rfl | rfl | rfl | rfl | rfl | rfl | h28
      ·
        refine w_tsw k191_32 (t := 160) (by decide) ?_
        obtain ⟨a, tx2, tl2, V2, M2, uN2, uL2, kN2, kL2, sn2, se2, hc, hm, hX2⟩ := pr_write (S := S) hX (by omega) (S.1 (i + 1))
        refine w_aload_n k191_160 rfl rfl ?_
        refine w_aload_n k191_161 rfl rfl ?_
        refine w_iload_n k191_162 rfl ?_
        refine w_iconst k191_163 ?_
        refine w_iadd k191_164 ?_
        refine w_top (nI (i + 1)) (nI_add i 1) ?_
        refine w_sld k191_165 (nI_pos (by omega)) (nI_clamp (by omega)) (by omega) ?_
        refine w_vA k191_166 mt58 (kc0 (by decide)) ⟨rfl, by decide⟩ [_] rfl rfl rfl (hc _ _ hR) ?_
        rintro _ n1 f1 g1 ⟨rfl, hn1, hF, hG, hR1⟩
        obtain rfl : n1 = 153 := hn1
        refine w_aload_n k191_169 rfl rfl ?_
        refine w_aload_n k191_170 rfl rfl ?_
        refine w_iload_n k191_171 rfl ?_
        refine w_iconst k191_172 ?_
        refine w_iadd k191_173 ?_
        refine w_top (nI (i + 1)) (nI_add i 1) ?_
        refine w_sld k191_174 (nI_pos (by omega)) (nI_clamp (by omega)) (by omega) ?_
        refine w_vA k191_175 mt60 kd137 ⟨rfl, by decide⟩ [_] rfl rfl rfl (hm _ _ (hMd.frame hF hG)) ?_
        rintro _ n2 f2 g2 ⟨rfl, hn2, hg2, hF2, hR2⟩
        obtain rfl : n2 = 153 := hn2
        obtain rfl : g1 = g2 := hg2.symm
        refine w_icmp_eq k191_178 (fun h178 => ?_) (fun h178 => absurd (rfl) h178)
        refine w_iinc k191_904 rfl (ls' := [_, _, _, _]) rfl ?_
        refine w_goto k191_907 ?_
        rw [show nI i + 5 = nI (i + 5) from nI_add i 5]
        exact ih (i + 5) f2 g1 tx2 tl2 V2 M2 uN2 uL2 kN2 kL2 sn2 se2 (by omega) (by omega) (hR1.fr hX2.1 (Nat.le_refl _) hF2 (fun _ _ => rfl)) hR2 (hX2.le (by omega))
      ·
        refine w_tsw k191_32 (t := 183) (by decide) ?_
        obtain ⟨a, tx2, tl2, V2, M2, uN2, uL2, kN2, kL2, sn2, se2, hc, hm, hX2⟩ := pr_wipe (S := S) hX (by omega)
        refine w_aload_n k191_183 rfl rfl ?_
        refine w_vA k191_184 mt61 (kc0 (by decide)) ⟨rfl, by decide⟩ [] rfl rfl rfl (hc _ _ hR) ?_
        rintro _ n1 f1 g1 ⟨rfl, hn1, hF, hG, hR1⟩
        obtain rfl : n1 = 153 := hn1
        refine w_aload_n k191_187 rfl rfl ?_
        refine w_vA k191_188 mt62 kd137 ⟨rfl, by decide⟩ [] rfl rfl rfl (hm _ _ (hMd.frame hF hG)) ?_
        rintro _ n2 f2 g2 ⟨rfl, hn2, hg2, hF2, hR2⟩
        obtain rfl : n2 = 153 := hn2
        obtain rfl : g1 = g2 := hg2.symm
        refine w_icmp_eq k191_191 (fun h191 => ?_) (fun h191 => absurd (rfl) h191)
        refine w_iinc k191_904 rfl (ls' := [_, _, _, _]) rfl ?_
        refine w_goto k191_907 ?_
        rw [show nI i + 5 = nI (i + 5) from nI_add i 5]
        exact ih (i + 5) f2 g1 tx2 tl2 V2 M2 uN2 uL2 kN2 kL2 sn2 se2 (by omega) (by omega) (hR1.fr hX2.1 (Nat.le_refl _) hF2 (fun _ _ => rfl)) hR2 (hX2.le (by omega))
      ·
        refine w_tsw k191_32 (t := 196) (by decide) ?_
        obtain ⟨a, tx2, tl2, V2, M2, uN2, uL2, kN2, kL2, sn2, se2, hc, hm, hX2⟩ := pr_fault (S := S) hX (by omega)
        refine w_aload_n k191_196 rfl rfl ?_
        refine w_vA k191_197 mt63 (kc0 (by decide)) ⟨rfl, by decide⟩ [] rfl rfl rfl (hc _ _ hR) ?_
        rintro _ n1 f1 g1 ⟨rfl, hn1, hF, hG, hR1⟩
        obtain rfl : n1 = 153 := hn1
        refine w_aload_n k191_200 rfl rfl ?_
        refine w_vA k191_201 mt71 kd137 ⟨rfl, by decide⟩ [] rfl rfl rfl (hm _ _ (hMd.frame hF hG)) ?_
        rintro _ n2 f2 g2 ⟨rfl, hn2, hg2, hF2, hR2⟩
        obtain rfl : n2 = 153 := hn2
        obtain rfl : g1 = g2 := hg2.symm
        refine w_icmp_eq k191_204 (fun h204 => ?_) (fun h204 => absurd (rfl) h204)
        refine w_iinc k191_904 rfl (ls' := [_, _, _, _]) rfl ?_
        refine w_goto k191_907 ?_
        rw [show nI i + 5 = nI (i + 5) from nI_add i 5]
        exact ih (i + 5) f2 g1 tx2 tl2 V2 M2 uN2 uL2 kN2 kL2 sn2 se2 (by omega) (by omega) (hR1.fr hX2.1 (Nat.le_refl _) hF2 (fun _ _ => rfl)) hR2 (hX2.le (by omega))
      ·
        refine w_tsw k191_32 (t := 209) (by decide) ?_
        obtain ⟨a, tx2, tl2, V2, M2, uN2, uL2, kN2, kL2, sn2, se2, hc, hm, hX2⟩ := pr_lay (S := S) hX (by omega)
        refine w_aload_n k191_209 rfl rfl ?_
        refine w_vA k191_210 mt73 (kc0 (by decide)) ⟨rfl, by decide⟩ [] rfl rfl rfl (hc _ _ hR) ?_
        rintro _ n1 f1 g1 ⟨rfl, hn1, hF, hG, hR1⟩
        obtain rfl : n1 = 153 := hn1
        refine w_aload_n k191_213 rfl rfl ?_
        refine w_vA k191_214 mt74 kd137 ⟨rfl, by decide⟩ [] rfl rfl rfl (hm _ _ (hMd.frame hF hG)) ?_
        rintro _ n2 f2 g2 ⟨rfl, hn2, hg2, hF2, hR2⟩
        obtain rfl : n2 = 153 := hn2
        obtain rfl : g1 = g2 := hg2.symm
        refine w_icmp_eq k191_217 (fun h217 => ?_) (fun h217 => absurd (rfl) h217)
        refine w_iinc k191_904 rfl (ls' := [_, _, _, _]) rfl ?_
        refine w_goto k191_907 ?_
        rw [show nI i + 5 = nI (i + 5) from nI_add i 5]
        exact ih (i + 5) f2 g1 tx2 tl2 V2 M2 uN2 uL2 kN2 kL2 sn2 se2 (by omega) (by omega) (hR1.fr hX2.1 (Nat.le_refl _) hF2 (fun _ _ => rfl)) hR2 (hX2.le (by omega))
      ·
        refine w_tsw k191_32 (t := 222) (by decide) ?_
        obtain ⟨a, tx2, tl2, V2, M2, uN2, uL2, kN2, kL2, sn2, se2, hc, hm, hX2⟩ := pr_chair (S := S) hX (by omega) (S.1 (i + 1)) (S.1 (i + 2))
        refine w_aload_n k191_222 rfl rfl ?_
        refine w_aload_n k191_223 rfl rfl ?_
        refine w_iload_n k191_224 rfl ?_
        refine w_iconst k191_225 ?_
        refine w_iadd k191_226 ?_
        refine w_top (nI (i + 1)) (nI_add i 1) ?_
        refine w_sld k191_227 (nI_pos (by omega)) (nI_clamp (by omega)) (by omega) ?_
        refine w_aload_n k191_228 rfl rfl ?_
        refine w_iload_n k191_229 rfl ?_
        refine w_iconst k191_230 ?_
        refine w_iadd k191_231 ?_
        refine w_top (nI (i + 2)) (nI_add i 2) ?_
        refine w_sld k191_232 (nI_pos (by omega)) (nI_clamp (by omega)) (by omega) ?_
        refine w_vA k191_233 mt77 (kc0 (by decide)) ⟨rfl, by decide⟩ [_, _] rfl rfl rfl (hc _ _ hR) ?_
        rintro _ n1 f1 g1 ⟨rfl, hn1, hF, hG, hR1⟩
        obtain rfl : n1 = 153 := hn1
        refine w_aload_n k191_236 rfl rfl ?_
        refine w_aload_n k191_237 rfl rfl ?_
        refine w_iload_n k191_238 rfl ?_
        refine w_iconst k191_239 ?_
        refine w_iadd k191_240 ?_
        refine w_top (nI (i + 1)) (nI_add i 1) ?_
        refine w_sld k191_241 (nI_pos (by omega)) (nI_clamp (by omega)) (by omega) ?_
        refine w_aload_n k191_242 rfl rfl ?_
        refine w_iload_n k191_243 rfl ?_
        refine w_iconst k191_244 ?_
        refine w_iadd k191_245 ?_
        refine w_top (nI (i + 2)) (nI_add i 2) ?_
        refine w_sld k191_246 (nI_pos (by omega)) (nI_clamp (by omega)) (by omega) ?_
        refine w_vA k191_247 mt81 kd137 ⟨rfl, by decide⟩ [_, _] rfl rfl rfl (hm _ _ (hMd.frame hF hG)) ?_
        rintro _ n2 f2 g2 ⟨rfl, hn2, hg2, hF2, hR2⟩
        obtain rfl : n2 = 153 := hn2
        obtain rfl : g1 = g2 := hg2.symm
        refine w_icmp_eq k191_250 (fun h250 => ?_) (fun h250 => absurd (rfl) h250)
        refine w_iinc k191_904 rfl (ls' := [_, _, _, _]) rfl ?_
        refine w_goto k191_907 ?_
        rw [show nI i + 5 = nI (i + 5) from nI_add i 5]
        exact ih (i + 5) f2 g1 tx2 tl2 V2 M2 uN2 uL2 kN2 kL2 sn2 se2 (by omega) (by omega) (hR1.fr hX2.1 (Nat.le_refl _) hF2 (fun _ _ => rfl)) hR2 (hX2.le (by omega))
      ·
        refine w_tsw k191_32 (t := 255) (by decide) ?_
        obtain ⟨a, tx2, tl2, V2, M2, uN2, uL2, kN2, kL2, sn2, se2, hc, hm, hX2⟩ := pr_message (S := S) hX (by omega) (S.1 (i + 1)) (S.1 (i + 2))
        refine w_aload_n k191_255 rfl rfl ?_
        refine w_aload_n k191_256 rfl rfl ?_
        refine w_iload_n k191_257 rfl ?_
        refine w_iconst k191_258 ?_
        refine w_iadd k191_259 ?_
        refine w_top (nI (i + 1)) (nI_add i 1) ?_
        refine w_sld k191_260 (nI_pos (by omega)) (nI_clamp (by omega)) (by omega) ?_
        refine w_aload_n k191_261 rfl rfl ?_
        refine w_iload_n k191_262 rfl ?_
        refine w_iconst k191_263 ?_
        refine w_iadd k191_264 ?_
        refine w_top (nI (i + 2)) (nI_add i 2) ?_
        refine w_sld k191_265 (nI_pos (by omega)) (nI_clamp (by omega)) (by omega) ?_
        refine w_vA k191_266 mt83 (kc0 (by decide)) ⟨rfl, by decide⟩ [_, _] rfl rfl rfl (hc _ _ hR) ?_
        rintro _ n1 f1 g1 ⟨rfl, hn1, hF, hG, hR1⟩
        obtain rfl : n1 = 153 := hn1
        refine w_aload_n k191_269 rfl rfl ?_
        refine w_aload_n k191_270 rfl rfl ?_
        refine w_iload_n k191_271 rfl ?_
        refine w_iconst k191_272 ?_
        refine w_iadd k191_273 ?_
        refine w_top (nI (i + 1)) (nI_add i 1) ?_
        refine w_sld k191_274 (nI_pos (by omega)) (nI_clamp (by omega)) (by omega) ?_
        refine w_aload_n k191_275 rfl rfl ?_
        refine w_iload_n k191_276 rfl ?_
        refine w_iconst k191_277 ?_
        refine w_iadd k191_278 ?_
        refine w_top (nI (i + 2)) (nI_add i 2) ?_
        refine w_sld k191_279 (nI_pos (by omega)) (nI_clamp (by omega)) (by omega) ?_
        refine w_vA k191_280 mt85 kd137 ⟨rfl, by decide⟩ [_, _] rfl rfl rfl (hm _ _ (hMd.frame hF hG)) ?_
        rintro _ n2 f2 g2 ⟨rfl, hn2, hg2, hF2, hR2⟩
        obtain rfl : n2 = 153 := hn2
        obtain rfl : g1 = g2 := hg2.symm
        refine w_icmp_eq k191_283 (fun h283 => ?_) (fun h283 => absurd (rfl) h283)
        refine w_iinc k191_904 rfl (ls' := [_, _, _, _]) rfl ?_
        refine w_goto k191_907 ?_
        rw [show nI i + 5 = nI (i + 5) from nI_add i 5]
        exact ih (i + 5) f2 g1 tx2 tl2 V2 M2 uN2 uL2 kN2 kL2 sn2 se2 (by omega) (by omega) (hR1.fr hX2.1 (Nat.le_refl _) hF2 (fun _ _ => rfl)) hR2 (hX2.le (by omega))
      ·
        refine w_tsw k191_32 (t := 288) (by decide) ?_
        obtain ⟨a, tx2, tl2, V2, M2, uN2, uL2, kN2, kL2, sn2, se2, hc, hm, hX2⟩ := pr_knit (S := S) hX (by omega) (S.1 (i + 1)) (S.1 (i + 2))
        refine w_aload_n k191_288 rfl rfl ?_
        refine w_aload_n k191_289 rfl rfl ?_
        refine w_iload_n k191_290 rfl ?_
        refine w_iconst k191_291 ?_
        refine w_iadd k191_292 ?_
        refine w_top (nI (i + 1)) (nI_add i 1) ?_
        refine w_sld k191_293 (nI_pos (by omega)) (nI_clamp (by omega)) (by omega) ?_
        refine w_aload_n k191_294 rfl rfl ?_
        refine w_iload_n k191_295 rfl ?_
        refine w_iconst k191_296 ?_
        refine w_iadd k191_297 ?_
        refine w_top (nI (i + 2)) (nI_add i 2) ?_
        refine w_sld k191_298 (nI_pos (by omega)) (nI_clamp (by omega)) (by omega) ?_
        refine w_vA k191_299 mt93 (kc0 (by decide)) ⟨rfl, by decide⟩ [_, _] rfl rfl rfl (hc _ _ hR) ?_
        rintro _ n1 f1 g1 ⟨rfl, hn1, hF, hG, hR1⟩
        obtain rfl : n1 = 153 := hn1
        refine w_aload_n k191_302 rfl rfl ?_
        refine w_aload_n k191_303 rfl rfl ?_
        refine w_iload_n k191_304 rfl ?_
        refine w_iconst k191_305 ?_
        refine w_iadd k191_306 ?_
        refine w_top (nI (i + 1)) (nI_add i 1) ?_
        refine w_sld k191_307 (nI_pos (by omega)) (nI_clamp (by omega)) (by omega) ?_
        refine w_aload_n k191_308 rfl rfl ?_
        refine w_iload_n k191_309 rfl ?_
        refine w_iconst k191_310 ?_
        refine w_iadd k191_311 ?_
        refine w_top (nI (i + 2)) (nI_add i 2) ?_
        refine w_sld k191_312 (nI_pos (by omega)) (nI_clamp (by omega)) (by omega) ?_
        refine w_vA k191_313 mt98 kd137 ⟨rfl, by decide⟩ [_, _] rfl rfl rfl (hm _ _ (hMd.frame hF hG)) ?_
        rintro _ n2 f2 g2 ⟨rfl, hn2, hg2, hF2, hR2⟩
        obtain rfl : n2 = 153 := hn2
        obtain rfl : g1 = g2 := hg2.symm
        refine w_icmp_eq k191_316 (fun h316 => ?_) (fun h316 => absurd (rfl) h316)
        refine w_iinc k191_904 rfl (ls' := [_, _, _, _]) rfl ?_
        refine w_goto k191_907 ?_
        rw [show nI i + 5 = nI (i + 5) from nI_add i 5]
        exact ih (i + 5) f2 g1 tx2 tl2 V2 M2 uN2 uL2 kN2 kL2 sn2 se2 (by omega) (by omega) (hR1.fr hX2.1 (Nat.le_refl _) hF2 (fun _ _ => rfl)) hR2 (hX2.le (by omega))
      ·
        refine w_tsw k191_32 (t := 321) (by decide) ?_
        obtain ⟨a, tx2, tl2, V2, M2, uN2, uL2, kN2, kL2, sn2, se2, hc, hm, hX2⟩ := pr_pass (S := S) hX (by omega) (S.1 (i + 1))
        refine w_aload_n k191_321 rfl rfl ?_
        refine w_aload_n k191_322 rfl rfl ?_
        refine w_iload_n k191_323 rfl ?_
        refine w_iconst k191_324 ?_
        refine w_iadd k191_325 ?_
        refine w_top (nI (i + 1)) (nI_add i 1) ?_
        refine w_sld k191_326 (nI_pos (by omega)) (nI_clamp (by omega)) (by omega) ?_
        refine w_vA k191_327 mt106 (kc0 (by decide)) ⟨rfl, by decide⟩ [_] rfl rfl rfl (hc _ _ hR) ?_
        rintro _ n1 f1 g1 ⟨rfl, hn1, hF, hG, hR1⟩
        obtain rfl : n1 = 153 := hn1
        refine w_aload_n k191_330 rfl rfl ?_
        refine w_aload_n k191_331 rfl rfl ?_
        refine w_iload_n k191_332 rfl ?_
        refine w_iconst k191_333 ?_
        refine w_iadd k191_334 ?_
        refine w_top (nI (i + 1)) (nI_add i 1) ?_
        refine w_sld k191_335 (nI_pos (by omega)) (nI_clamp (by omega)) (by omega) ?_
        refine w_vA k191_336 mt112 kd137 ⟨rfl, by decide⟩ [_] rfl rfl rfl (hm _ _ (hMd.frame hF hG)) ?_
        rintro _ n2 f2 g2 ⟨rfl, hn2, hg2, hF2, hR2⟩
        obtain rfl : n2 = 153 := hn2
        obtain rfl : g1 = g2 := hg2.symm
        refine w_icmp_eq k191_339 (fun h339 => ?_) (fun h339 => absurd (rfl) h339)
        refine w_iinc k191_904 rfl (ls' := [_, _, _, _]) rfl ?_
        refine w_goto k191_907 ?_
        rw [show nI i + 5 = nI (i + 5) from nI_add i 5]
        exact ih (i + 5) f2 g1 tx2 tl2 V2 M2 uN2 uL2 kN2 kL2 sn2 se2 (by omega) (by omega) (hR1.fr hX2.1 (Nat.le_refl _) hF2 (fun _ _ => rfl)) hR2 (hX2.le (by omega))
      ·
        refine w_tsw k191_32 (t := 344) (by decide) ?_
        obtain ⟨a, tx2, tl2, V2, M2, uN2, uL2, kN2, kL2, sn2, se2, hc, hm, hX2⟩ := pr_rain (S := S) hX (by omega) (S.1 (i + 1))
        refine w_aload_n k191_344 rfl rfl ?_
        refine w_aload_n k191_345 rfl rfl ?_
        refine w_iload_n k191_346 rfl ?_
        refine w_iconst k191_347 ?_
        refine w_iadd k191_348 ?_
        refine w_top (nI (i + 1)) (nI_add i 1) ?_
        refine w_sld k191_349 (nI_pos (by omega)) (nI_clamp (by omega)) (by omega) ?_
        refine w_vA k191_350 mt113 (kc0 (by decide)) ⟨rfl, by decide⟩ [_] rfl rfl rfl (hc _ _ hR) ?_
        rintro _ n1 f1 g1 ⟨rfl, hn1, hF, hG, hR1⟩
        obtain rfl : n1 = 153 := hn1
        refine w_aload_n k191_353 rfl rfl ?_
        refine w_aload_n k191_354 rfl rfl ?_
        refine w_iload_n k191_355 rfl ?_
        refine w_iconst k191_356 ?_
        refine w_iadd k191_357 ?_
        refine w_top (nI (i + 1)) (nI_add i 1) ?_
        refine w_sld k191_358 (nI_pos (by omega)) (nI_clamp (by omega)) (by omega) ?_
        refine w_vA k191_359 mt114 kd137 ⟨rfl, by decide⟩ [_] rfl rfl rfl (hm _ _ (hMd.frame hF hG)) ?_
        rintro _ n2 f2 g2 ⟨rfl, hn2, hg2, hF2, hR2⟩
        obtain rfl : n2 = 153 := hn2
        obtain rfl : g1 = g2 := hg2.symm
        refine w_icmp_eq k191_362 (fun h362 => ?_) (fun h362 => absurd (rfl) h362)
        refine w_iinc k191_904 rfl (ls' := [_, _, _, _]) rfl ?_
        refine w_goto k191_907 ?_
        rw [show nI i + 5 = nI (i + 5) from nI_add i 5]
        exact ih (i + 5) f2 g1 tx2 tl2 V2 M2 uN2 uL2 kN2 kL2 sn2 se2 (by omega) (by omega) (hR1.fr hX2.1 (Nat.le_refl _) hF2 (fun _ _ => rfl)) hR2 (hX2.le (by omega))
      ·
        refine w_tsw k191_32 (t := 367) (by decide) ?_
        obtain ⟨a, tx2, tl2, V2, M2, uN2, uL2, kN2, kL2, sn2, se2, hc, hm, hX2⟩ := pr_send (S := S) hX (by omega) (S.1 (i + 1)) (S.1 (i + 2))
        refine w_aload_n k191_367 rfl rfl ?_
        refine w_aload_n k191_368 rfl rfl ?_
        refine w_iload_n k191_369 rfl ?_
        refine w_iconst k191_370 ?_
        refine w_iadd k191_371 ?_
        refine w_top (nI (i + 1)) (nI_add i 1) ?_
        refine w_sld k191_372 (nI_pos (by omega)) (nI_clamp (by omega)) (by omega) ?_
        refine w_aload_n k191_373 rfl rfl ?_
        refine w_iload_n k191_374 rfl ?_
        refine w_iconst k191_375 ?_
        refine w_iadd k191_376 ?_
        refine w_top (nI (i + 2)) (nI_add i 2) ?_
        refine w_sld k191_377 (nI_pos (by omega)) (nI_clamp (by omega)) (by omega) ?_
        refine w_vA k191_378 mt117 (kc0 (by decide)) ⟨rfl, by decide⟩ [_, _] rfl rfl rfl (hc _ _ hR) ?_
        rintro _ n1 f1 g1 ⟨rfl, hn1, hF, hG, hR1⟩
        obtain rfl : n1 = 153 := hn1
        refine w_aload_n k191_381 rfl rfl ?_
        refine w_aload_n k191_382 rfl rfl ?_
        refine w_iload_n k191_383 rfl ?_
        refine w_iconst k191_384 ?_
        refine w_iadd k191_385 ?_
        refine w_top (nI (i + 1)) (nI_add i 1) ?_
        refine w_sld k191_386 (nI_pos (by omega)) (nI_clamp (by omega)) (by omega) ?_
        refine w_aload_n k191_387 rfl rfl ?_
        refine w_iload_n k191_388 rfl ?_
        refine w_iconst k191_389 ?_
        refine w_iadd k191_390 ?_
        refine w_top (nI (i + 2)) (nI_add i 2) ?_
        refine w_sld k191_391 (nI_pos (by omega)) (nI_clamp (by omega)) (by omega) ?_
        refine w_vA k191_392 mt118 kd137 ⟨rfl, by decide⟩ [_, _] rfl rfl rfl (hm _ _ (hMd.frame hF hG)) ?_
        rintro _ n2 f2 g2 ⟨rfl, hn2, hg2, hF2, hR2⟩
        obtain rfl : n2 = 153 := hn2
        obtain rfl : g1 = g2 := hg2.symm
        refine w_icmp_eq k191_395 (fun h395 => ?_) (fun h395 => absurd (rfl) h395)
        refine w_iinc k191_904 rfl (ls' := [_, _, _, _]) rfl ?_
        refine w_goto k191_907 ?_
        rw [show nI i + 5 = nI (i + 5) from nI_add i 5]
        exact ih (i + 5) f2 g1 tx2 tl2 V2 M2 uN2 uL2 kN2 kL2 sn2 se2 (by omega) (by omega) (hR1.fr hX2.1 (Nat.le_refl _) hF2 (fun _ _ => rfl)) hR2 (hX2.le (by omega))
      ·
        refine w_tsw k191_32 (t := 400) (by decide) ?_
        obtain ⟨a, tx2, tl2, V2, M2, uN2, uL2, kN2, kL2, sn2, se2, hc, hm, hX2⟩ := pr_alter (S := S) hX (by omega) (S.1 (i + 1)) (S.1 (i + 2))
        refine w_aload_n k191_400 rfl rfl ?_
        refine w_aload_n k191_401 rfl rfl ?_
        refine w_iload_n k191_402 rfl ?_
        refine w_iconst k191_403 ?_
        refine w_iadd k191_404 ?_
        refine w_top (nI (i + 1)) (nI_add i 1) ?_
        refine w_sld k191_405 (nI_pos (by omega)) (nI_clamp (by omega)) (by omega) ?_
        refine w_aload_n k191_406 rfl rfl ?_
        refine w_iload_n k191_407 rfl ?_
        refine w_iconst k191_408 ?_
        refine w_iadd k191_409 ?_
        refine w_top (nI (i + 2)) (nI_add i 2) ?_
        refine w_sld k191_410 (nI_pos (by omega)) (nI_clamp (by omega)) (by omega) ?_
        refine w_vA k191_411 mt119 (kc0 (by decide)) ⟨rfl, by decide⟩ [_, _] rfl rfl rfl (hc _ _ hR) ?_
        rintro _ n1 f1 g1 ⟨rfl, hn1, hF, hG, hR1⟩
        obtain rfl : n1 = 153 := hn1
        refine w_aload_n k191_414 rfl rfl ?_
        refine w_aload_n k191_415 rfl rfl ?_
        refine w_iload_n k191_416 rfl ?_
        refine w_iconst k191_417 ?_
        refine w_iadd k191_418 ?_
        refine w_top (nI (i + 1)) (nI_add i 1) ?_
        refine w_sld k191_419 (nI_pos (by omega)) (nI_clamp (by omega)) (by omega) ?_
        refine w_aload_n k191_420 rfl rfl ?_
        refine w_iload_n k191_421 rfl ?_
        refine w_iconst k191_422 ?_
        refine w_iadd k191_423 ?_
        refine w_top (nI (i + 2)) (nI_add i 2) ?_
        refine w_sld k191_424 (nI_pos (by omega)) (nI_clamp (by omega)) (by omega) ?_
        refine w_vA k191_425 mt120 kd137 ⟨rfl, by decide⟩ [_, _] rfl rfl rfl (hm _ _ (hMd.frame hF hG)) ?_
        rintro _ n2 f2 g2 ⟨rfl, hn2, hg2, hF2, hR2⟩
        obtain rfl : n2 = 153 := hn2
        obtain rfl : g1 = g2 := hg2.symm
        refine w_icmp_eq k191_428 (fun h428 => ?_) (fun h428 => absurd (rfl) h428)
        refine w_iinc k191_904 rfl (ls' := [_, _, _, _]) rfl ?_
        refine w_goto k191_907 ?_
        rw [show nI i + 5 = nI (i + 5) from nI_add i 5]
        exact ih (i + 5) f2 g1 tx2 tl2 V2 M2 uN2 uL2 kN2 kL2 sn2 se2 (by omega) (by omega) (hR1.fr hX2.1 (Nat.le_refl _) hF2 (fun _ _ => rfl)) hR2 (hX2.le (by omega))
      ·
        refine w_tsw k191_32 (t := 433) (by decide) ?_
        obtain ⟨a, tx2, tl2, V2, M2, uN2, uL2, kN2, kL2, sn2, se2, hc, hm, hX2⟩ := pr_undo (S := S) hX (by omega)
        refine w_aload_n k191_433 rfl rfl ?_
        refine w_vA k191_434 mt123 (kc0 (by decide)) ⟨rfl, by decide⟩ [] rfl rfl rfl (hc _ _ hR) ?_
        rintro _ n1 f1 g1 ⟨rfl, hn1, hF, hG, hR1⟩
        obtain rfl : n1 = 153 := hn1
        refine w_aload_n k191_437 rfl rfl ?_
        refine w_vA k191_438 mt124 kd137 ⟨rfl, by decide⟩ [] rfl rfl rfl (hm _ _ (hMd.frame hF hG)) ?_
        rintro _ n2 f2 g2 ⟨rfl, hn2, hg2, hF2, hR2⟩
        obtain rfl : n2 = 153 := hn2
        obtain rfl : g1 = g2 := hg2.symm
        refine w_icmp_eq k191_441 (fun h441 => ?_) (fun h441 => absurd (rfl) h441)
        refine w_iinc k191_904 rfl (ls' := [_, _, _, _]) rfl ?_
        refine w_goto k191_907 ?_
        rw [show nI i + 5 = nI (i + 5) from nI_add i 5]
        exact ih (i + 5) f2 g1 tx2 tl2 V2 M2 uN2 uL2 kN2 kL2 sn2 se2 (by omega) (by omega) (hR1.fr hX2.1 (Nat.le_refl _) hF2 (fun _ _ => rfl)) hR2 (hX2.le (by omega))
      ·
        refine w_tsw k191_32 (t := 446) (by decide) ?_
        obtain ⟨a, tx2, tl2, V2, M2, uN2, uL2, kN2, kL2, sn2, se2, hc, hm, hX2⟩ := pr_comes (S := S) hX (by omega) (S.1 (i + 1)) (S.1 (i + 2)) (S.1 (i + 3))
        refine w_aload_n k191_446 rfl rfl ?_
        refine w_aload_n k191_447 rfl rfl ?_
        refine w_iload_n k191_448 rfl ?_
        refine w_iconst k191_449 ?_
        refine w_iadd k191_450 ?_
        refine w_top (nI (i + 1)) (nI_add i 1) ?_
        refine w_sld k191_451 (nI_pos (by omega)) (nI_clamp (by omega)) (by omega) ?_
        refine w_aload_n k191_452 rfl rfl ?_
        refine w_iload_n k191_453 rfl ?_
        refine w_iconst k191_454 ?_
        refine w_iadd k191_455 ?_
        refine w_top (nI (i + 2)) (nI_add i 2) ?_
        refine w_sld k191_456 (nI_pos (by omega)) (nI_clamp (by omega)) (by omega) ?_
        refine w_aload_n k191_457 rfl rfl ?_
        refine w_iload_n k191_458 rfl ?_
        refine w_iconst k191_459 ?_
        refine w_iadd k191_460 ?_
        refine w_top (nI (i + 3)) (nI_add i 3) ?_
        refine w_sld k191_461 (nI_pos (by omega)) (nI_clamp (by omega)) (by omega) ?_
        refine w_vA k191_462 mt129 (kc0 (by decide)) ⟨rfl, by decide⟩ [_, _, _] rfl rfl rfl (hc _ _ hR) ?_
        rintro _ n1 f1 g1 ⟨rfl, hn1, hF, hG, hR1⟩
        obtain rfl : n1 = 153 := hn1
        refine w_aload_n k191_465 rfl rfl ?_
        refine w_aload_n k191_466 rfl rfl ?_
        refine w_iload_n k191_467 rfl ?_
        refine w_iconst k191_468 ?_
        refine w_iadd k191_469 ?_
        refine w_top (nI (i + 1)) (nI_add i 1) ?_
        refine w_sld k191_470 (nI_pos (by omega)) (nI_clamp (by omega)) (by omega) ?_
        refine w_aload_n k191_471 rfl rfl ?_
        refine w_iload_n k191_472 rfl ?_
        refine w_iconst k191_473 ?_
        refine w_iadd k191_474 ?_
        refine w_top (nI (i + 2)) (nI_add i 2) ?_
        refine w_sld k191_475 (nI_pos (by omega)) (nI_clamp (by omega)) (by omega) ?_
        refine w_aload_n k191_476 rfl rfl ?_
        refine w_iload_n k191_477 rfl ?_
        refine w_iconst k191_478 ?_
        refine w_iadd k191_479 ?_
        refine w_top (nI (i + 3)) (nI_add i 3) ?_
        refine w_sld k191_480 (nI_pos (by omega)) (nI_clamp (by omega)) (by omega) ?_
        refine w_vA k191_481 mt132 kd137 ⟨rfl, by decide⟩ [_, _, _] rfl rfl rfl (hm _ _ (hMd.frame hF hG)) ?_
        rintro _ n2 f2 g2 ⟨rfl, hn2, hg2, hF2, hR2⟩
        obtain rfl : n2 = 153 := hn2
        obtain rfl : g1 = g2 := hg2.symm
        refine w_icmp_eq k191_484 (fun h484 => ?_) (fun h484 => absurd (rfl) h484)
        refine w_iinc k191_904 rfl (ls' := [_, _, _, _]) rfl ?_
        refine w_goto k191_907 ?_
        rw [show nI i + 5 = nI (i + 5) from nI_add i 5]
        exact ih (i + 5) f2 g1 tx2 tl2 V2 M2 uN2 uL2 kN2 kL2 sn2 se2 (by omega) (by omega) (hR1.fr hX2.1 (Nat.le_refl _) hF2 (fun _ _ => rfl)) hR2 (hX2.le (by omega))
      ·
        refine w_tsw k191_32 (t := 489) (by decide) ?_
        obtain ⟨a, tx2, tl2, V2, M2, uN2, uL2, kN2, kL2, sn2, se2, hc, hm, hX2⟩ := pr_out (S := S) hX (by omega) (S.1 (i + 1)) (S.1 (i + 2))
        refine w_aload_n k191_489 rfl rfl ?_
        refine w_aload_n k191_490 rfl rfl ?_
        refine w_iload_n k191_491 rfl ?_
        refine w_iconst k191_492 ?_
        refine w_iadd k191_493 ?_
        refine w_top (nI (i + 1)) (nI_add i 1) ?_
        refine w_sld k191_494 (nI_pos (by omega)) (nI_clamp (by omega)) (by omega) ?_
        refine w_aload_n k191_495 rfl rfl ?_
        refine w_iload_n k191_496 rfl ?_
        refine w_iconst k191_497 ?_
        refine w_iadd k191_498 ?_
        refine w_top (nI (i + 2)) (nI_add i 2) ?_
        refine w_sld k191_499 (nI_pos (by omega)) (nI_clamp (by omega)) (by omega) ?_
        refine w_vA k191_500 mt136 (kc0 (by decide)) ⟨rfl, by decide⟩ [_, _] rfl rfl rfl (hc _ _ hR) ?_
        rintro _ n1 f1 g1 ⟨rfl, hn1, hF, hG, hR1⟩
        obtain rfl : n1 = 153 := hn1
        refine w_aload_n k191_503 rfl rfl ?_
        refine w_aload_n k191_504 rfl rfl ?_
        refine w_iload_n k191_505 rfl ?_
        refine w_iconst k191_506 ?_
        refine w_iadd k191_507 ?_
        refine w_top (nI (i + 1)) (nI_add i 1) ?_
        refine w_sld k191_508 (nI_pos (by omega)) (nI_clamp (by omega)) (by omega) ?_
        refine w_aload_n k191_509 rfl rfl ?_
        refine w_iload_n k191_510 rfl ?_
        refine w_iconst k191_511 ?_
        refine w_iadd k191_512 ?_
        refine w_top (nI (i + 2)) (nI_add i 2) ?_
        refine w_sld k191_513 (nI_pos (by omega)) (nI_clamp (by omega)) (by omega) ?_
        refine w_vA k191_514 mt138 kd137 ⟨rfl, by decide⟩ [_, _] rfl rfl rfl (hm _ _ (hMd.frame hF hG)) ?_
        rintro _ n2 f2 g2 ⟨rfl, hn2, hg2, hF2, hR2⟩
        obtain rfl : n2 = 153 := hn2
        obtain rfl : g1 = g2 := hg2.symm
        refine w_icmp_eq k191_517 (fun h517 => ?_) (fun h517 => absurd (rfl) h517)
        refine w_iinc k191_904 rfl (ls' := [_, _, _, _]) rfl ?_
        refine w_goto k191_907 ?_
        rw [show nI i + 5 = nI (i + 5) from nI_add i 5]
        exact ih (i + 5) f2 g1 tx2 tl2 V2 M2 uN2 uL2 kN2 kL2 sn2 se2 (by omega) (by omega) (hR1.fr hX2.1 (Nat.le_refl _) hF2 (fun _ _ => rfl)) hR2 (hX2.le (by omega))
      ·
        refine w_tsw k191_32 (t := 522) (by decide) ?_
        obtain ⟨a, tx2, tl2, V2, M2, uN2, uL2, kN2, kL2, sn2, se2, hc, hm, hX2⟩ := pr_code (S := S) hX (by omega) (S.1 (i + 1)) (S.1 (i + 2))
        refine w_aload_n k191_522 rfl rfl ?_
        refine w_aload_n k191_523 rfl rfl ?_
        refine w_iload_n k191_524 rfl ?_
        refine w_iconst k191_525 ?_
        refine w_iadd k191_526 ?_
        refine w_top (nI (i + 1)) (nI_add i 1) ?_
        refine w_sld k191_527 (nI_pos (by omega)) (nI_clamp (by omega)) (by omega) ?_
        refine w_aload_n k191_528 rfl rfl ?_
        refine w_iload_n k191_529 rfl ?_
        refine w_iconst k191_530 ?_
        refine w_iadd k191_531 ?_
        refine w_top (nI (i + 2)) (nI_add i 2) ?_
        refine w_sld k191_532 (nI_pos (by omega)) (nI_clamp (by omega)) (by omega) ?_
        refine w_vA k191_533 mt139 (kc0 (by decide)) ⟨rfl, by decide⟩ [_, _] rfl rfl rfl (hc _ _ hR) ?_
        rintro _ n1 f1 g1 ⟨rfl, hn1, hF, hG, hR1⟩
        obtain rfl : n1 = 153 := hn1
        refine w_aload_n k191_536 rfl rfl ?_
        refine w_aload_n k191_537 rfl rfl ?_
        refine w_iload_n k191_538 rfl ?_
        refine w_iconst k191_539 ?_
        refine w_iadd k191_540 ?_
        refine w_top (nI (i + 1)) (nI_add i 1) ?_
        refine w_sld k191_541 (nI_pos (by omega)) (nI_clamp (by omega)) (by omega) ?_
        refine w_aload_n k191_542 rfl rfl ?_
        refine w_iload_n k191_543 rfl ?_
        refine w_iconst k191_544 ?_
        refine w_iadd k191_545 ?_
        refine w_top (nI (i + 2)) (nI_add i 2) ?_
        refine w_sld k191_546 (nI_pos (by omega)) (nI_clamp (by omega)) (by omega) ?_
        refine w_vA k191_547 mt140 kd137 ⟨rfl, by decide⟩ [_, _] rfl rfl rfl (hm _ _ (hMd.frame hF hG)) ?_
        rintro _ n2 f2 g2 ⟨rfl, hn2, hg2, hF2, hR2⟩
        obtain rfl : n2 = 153 := hn2
        obtain rfl : g1 = g2 := hg2.symm
        refine w_icmp_eq k191_550 (fun h550 => ?_) (fun h550 => absurd (rfl) h550)
        refine w_iinc k191_904 rfl (ls' := [_, _, _, _]) rfl ?_
        refine w_goto k191_907 ?_
        rw [show nI i + 5 = nI (i + 5) from nI_add i 5]
        exact ih (i + 5) f2 g1 tx2 tl2 V2 M2 uN2 uL2 kN2 kL2 sn2 se2 (by omega) (by omega) (hR1.fr hX2.1 (Nat.le_refl _) hF2 (fun _ _ => rfl)) hR2 (hX2.le (by omega))
      ·
        refine w_tsw k191_32 (t := 555) (by decide) ?_
        obtain ⟨a, tx2, tl2, V2, M2, uN2, uL2, kN2, kL2, sn2, se2, hc, hm, hX2⟩ := pr_could (S := S) hX (by omega) (S.1 (i + 1)) (S.1 (i + 2))
        refine w_aload_n k191_555 rfl rfl ?_
        refine w_aload_n k191_556 rfl rfl ?_
        refine w_iload_n k191_557 rfl ?_
        refine w_iconst k191_558 ?_
        refine w_iadd k191_559 ?_
        refine w_top (nI (i + 1)) (nI_add i 1) ?_
        refine w_sld k191_560 (nI_pos (by omega)) (nI_clamp (by omega)) (by omega) ?_
        refine w_aload_n k191_561 rfl rfl ?_
        refine w_iload_n k191_562 rfl ?_
        refine w_iconst k191_563 ?_
        refine w_iadd k191_564 ?_
        refine w_top (nI (i + 2)) (nI_add i 2) ?_
        refine w_sld k191_565 (nI_pos (by omega)) (nI_clamp (by omega)) (by omega) ?_
        refine w_vA k191_566 mt141 (kc0 (by decide)) ⟨rfl, by decide⟩ [_, _] rfl rfl rfl (hc _ _ hR) ?_
        rintro _ n1 f1 g1 ⟨rfl, hn1, hF, hG, hR1⟩
        obtain rfl : n1 = 153 := hn1
        refine w_aload_n k191_569 rfl rfl ?_
        refine w_aload_n k191_570 rfl rfl ?_
        refine w_iload_n k191_571 rfl ?_
        refine w_iconst k191_572 ?_
        refine w_iadd k191_573 ?_
        refine w_top (nI (i + 1)) (nI_add i 1) ?_
        refine w_sld k191_574 (nI_pos (by omega)) (nI_clamp (by omega)) (by omega) ?_
        refine w_aload_n k191_575 rfl rfl ?_
        refine w_iload_n k191_576 rfl ?_
        refine w_iconst k191_577 ?_
        refine w_iadd k191_578 ?_
        refine w_top (nI (i + 2)) (nI_add i 2) ?_
        refine w_sld k191_579 (nI_pos (by omega)) (nI_clamp (by omega)) (by omega) ?_
        refine w_vA k191_580 mt142 kd137 ⟨rfl, by decide⟩ [_, _] rfl rfl rfl (hm _ _ (hMd.frame hF hG)) ?_
        rintro _ n2 f2 g2 ⟨rfl, hn2, hg2, hF2, hR2⟩
        obtain rfl : n2 = 153 := hn2
        obtain rfl : g1 = g2 := hg2.symm
        refine w_icmp_eq k191_583 (fun h583 => ?_) (fun h583 => absurd (rfl) h583)
        refine w_iinc k191_904 rfl (ls' := [_, _, _, _]) rfl ?_
        refine w_goto k191_907 ?_
        rw [show nI i + 5 = nI (i + 5) from nI_add i 5]
        exact ih (i + 5) f2 g1 tx2 tl2 V2 M2 uN2 uL2 kN2 kL2 sn2 se2 (by omega) (by omega) (hR1.fr hX2.1 (Nat.le_refl _) hF2 (fun _ _ => rfl)) hR2 (hX2.le (by omega))
      ·
        refine w_tsw k191_32 (t := 588) (by decide) ?_
        obtain ⟨a, tx2, tl2, V2, M2, uN2, uL2, kN2, kL2, sn2, se2, hc, hm, hX2⟩ := pr_bring (S := S) hX (by omega) (S.1 (i + 1))
        refine w_aload_n k191_588 rfl rfl ?_
        refine w_aload_n k191_589 rfl rfl ?_
        refine w_iload_n k191_590 rfl ?_
        refine w_iconst k191_591 ?_
        refine w_iadd k191_592 ?_
        refine w_top (nI (i + 1)) (nI_add i 1) ?_
        refine w_sld k191_593 (nI_pos (by omega)) (nI_clamp (by omega)) (by omega) ?_
        refine w_vA k191_594 mt144 (kc0 (by decide)) ⟨rfl, by decide⟩ [_] rfl rfl rfl (hc _ _ hR) ?_
        rintro _ n1 f1 g1 ⟨rfl, hn1, hF, hG, hR1⟩
        obtain rfl : n1 = 153 := hn1
        refine w_aload_n k191_597 rfl rfl ?_
        refine w_aload_n k191_598 rfl rfl ?_
        refine w_iload_n k191_599 rfl ?_
        refine w_iconst k191_600 ?_
        refine w_iadd k191_601 ?_
        refine w_top (nI (i + 1)) (nI_add i 1) ?_
        refine w_sld k191_602 (nI_pos (by omega)) (nI_clamp (by omega)) (by omega) ?_
        refine w_vA k191_603 mt147 kd137 ⟨rfl, by decide⟩ [_] rfl rfl rfl (hm _ _ (hMd.frame hF hG)) ?_
        rintro _ n2 f2 g2 ⟨rfl, hn2, hg2, hF2, hR2⟩
        obtain rfl : n2 = 153 := hn2
        obtain rfl : g1 = g2 := hg2.symm
        refine w_icmp_eq k191_606 (fun h606 => ?_) (fun h606 => absurd (rfl) h606)
        refine w_iinc k191_904 rfl (ls' := [_, _, _, _]) rfl ?_
        refine w_goto k191_907 ?_
        rw [show nI i + 5 = nI (i + 5) from nI_add i 5]
        exact ih (i + 5) f2 g1 tx2 tl2 V2 M2 uN2 uL2 kN2 kL2 sn2 se2 (by omega) (by omega) (hR1.fr hX2.1 (Nat.le_refl _) hF2 (fun _ _ => rfl)) hR2 (hX2.le (by omega))
      ·
        refine w_tsw k191_32 (t := 611) (by decide) ?_
        obtain ⟨a, tx2, tl2, V2, M2, uN2, uL2, kN2, kL2, sn2, se2, hc, hm, hX2⟩ := pr_meet (S := S) hX (by omega) (S.1 (i + 1)) (S.1 (i + 2))
        refine w_aload_n k191_611 rfl rfl ?_
        refine w_aload_n k191_612 rfl rfl ?_
        refine w_iload_n k191_613 rfl ?_
        refine w_iconst k191_614 ?_
        refine w_iadd k191_615 ?_
        refine w_top (nI (i + 1)) (nI_add i 1) ?_
        refine w_sld k191_616 (nI_pos (by omega)) (nI_clamp (by omega)) (by omega) ?_
        refine w_aload_n k191_617 rfl rfl ?_
        refine w_iload_n k191_618 rfl ?_
        refine w_iconst k191_619 ?_
        refine w_iadd k191_620 ?_
        refine w_top (nI (i + 2)) (nI_add i 2) ?_
        refine w_sld k191_621 (nI_pos (by omega)) (nI_clamp (by omega)) (by omega) ?_
        refine w_vA k191_622 mt149 (kc0 (by decide)) ⟨rfl, by decide⟩ [_, _] rfl rfl rfl (hc _ _ hR) ?_
        rintro _ n1 f1 g1 ⟨rfl, hn1, hF, hG, hR1⟩
        obtain rfl : n1 = 153 := hn1
        refine w_aload_n k191_625 rfl rfl ?_
        refine w_aload_n k191_626 rfl rfl ?_
        refine w_iload_n k191_627 rfl ?_
        refine w_iconst k191_628 ?_
        refine w_iadd k191_629 ?_
        refine w_top (nI (i + 1)) (nI_add i 1) ?_
        refine w_sld k191_630 (nI_pos (by omega)) (nI_clamp (by omega)) (by omega) ?_
        refine w_aload_n k191_631 rfl rfl ?_
        refine w_iload_n k191_632 rfl ?_
        refine w_iconst k191_633 ?_
        refine w_iadd k191_634 ?_
        refine w_top (nI (i + 2)) (nI_add i 2) ?_
        refine w_sld k191_635 (nI_pos (by omega)) (nI_clamp (by omega)) (by omega) ?_
        refine w_vA k191_636 mt151 kd137 ⟨rfl, by decide⟩ [_, _] rfl rfl rfl (hm _ _ (hMd.frame hF hG)) ?_
        rintro _ n2 f2 g2 ⟨rfl, hn2, hg2, hF2, hR2⟩
        obtain rfl : n2 = 153 := hn2
        obtain rfl : g1 = g2 := hg2.symm
        refine w_icmp_eq k191_639 (fun h639 => ?_) (fun h639 => absurd (rfl) h639)
        refine w_iinc k191_904 rfl (ls' := [_, _, _, _]) rfl ?_
        refine w_goto k191_907 ?_
        rw [show nI i + 5 = nI (i + 5) from nI_add i 5]
        exact ih (i + 5) f2 g1 tx2 tl2 V2 M2 uN2 uL2 kN2 kL2 sn2 se2 (by omega) (by omega) (hR1.fr hX2.1 (Nat.le_refl _) hF2 (fun _ _ => rfl)) hR2 (hX2.le (by omega))
      ·
        refine w_tsw k191_32 (t := 644) (by decide) ?_
        obtain ⟨a, tx2, tl2, V2, M2, uN2, uL2, kN2, kL2, sn2, se2, hc, hm, hX2⟩ := pr_hangs (S := S) hX (by omega) (S.1 (i + 1))
        refine w_aload_n k191_644 rfl rfl ?_
        refine w_aload_n k191_645 rfl rfl ?_
        refine w_iload_n k191_646 rfl ?_
        refine w_iconst k191_647 ?_
        refine w_iadd k191_648 ?_
        refine w_top (nI (i + 1)) (nI_add i 1) ?_
        refine w_sld k191_649 (nI_pos (by omega)) (nI_clamp (by omega)) (by omega) ?_
        refine w_vA k191_650 mt153 (kc0 (by decide)) ⟨rfl, by decide⟩ [_] rfl rfl rfl (hc _ _ hR) ?_
        rintro _ n1 f1 g1 ⟨rfl, hn1, hF, hG, hR1⟩
        obtain rfl : n1 = 153 := hn1
        refine w_aload_n k191_653 rfl rfl ?_
        refine w_aload_n k191_654 rfl rfl ?_
        refine w_iload_n k191_655 rfl ?_
        refine w_iconst k191_656 ?_
        refine w_iadd k191_657 ?_
        refine w_top (nI (i + 1)) (nI_add i 1) ?_
        refine w_sld k191_658 (nI_pos (by omega)) (nI_clamp (by omega)) (by omega) ?_
        refine w_vA k191_659 mt155 kd137 ⟨rfl, by decide⟩ [_] rfl rfl rfl (hm _ _ (hMd.frame hF hG)) ?_
        rintro _ n2 f2 g2 ⟨rfl, hn2, hg2, hF2, hR2⟩
        obtain rfl : n2 = 153 := hn2
        obtain rfl : g1 = g2 := hg2.symm
        refine w_icmp_eq k191_662 (fun h662 => ?_) (fun h662 => absurd (rfl) h662)
        refine w_iinc k191_904 rfl (ls' := [_, _, _, _]) rfl ?_
        refine w_goto k191_907 ?_
        rw [show nI i + 5 = nI (i + 5) from nI_add i 5]
        exact ih (i + 5) f2 g1 tx2 tl2 V2 M2 uN2 uL2 kN2 kL2 sn2 se2 (by omega) (by omega) (hR1.fr hX2.1 (Nat.le_refl _) hF2 (fun _ _ => rfl)) hR2 (hX2.le (by omega))
      ·
        refine w_tsw k191_32 (t := 667) (by decide) ?_
        obtain ⟨a, tx2, tl2, V2, M2, uN2, uL2, kN2, kL2, sn2, se2, hc, hm, hX2⟩ := pr_see (S := S) hX (by omega) (S.1 (i + 1)) (S.1 (i + 2)) (S.1 (i + 3))
        refine w_aload_n k191_667 rfl rfl ?_
        refine w_aload_n k191_668 rfl rfl ?_
        refine w_iload_n k191_669 rfl ?_
        refine w_iconst k191_670 ?_
        refine w_iadd k191_671 ?_
        refine w_top (nI (i + 1)) (nI_add i 1) ?_
        refine w_sld k191_672 (nI_pos (by omega)) (nI_clamp (by omega)) (by omega) ?_
        refine w_aload_n k191_673 rfl rfl ?_
        refine w_iload_n k191_674 rfl ?_
        refine w_iconst k191_675 ?_
        refine w_iadd k191_676 ?_
        refine w_top (nI (i + 2)) (nI_add i 2) ?_
        refine w_sld k191_677 (nI_pos (by omega)) (nI_clamp (by omega)) (by omega) ?_
        refine w_aload_n k191_678 rfl rfl ?_
        refine w_iload_n k191_679 rfl ?_
        refine w_iconst k191_680 ?_
        refine w_iadd k191_681 ?_
        refine w_top (nI (i + 3)) (nI_add i 3) ?_
        refine w_sld k191_682 (nI_pos (by omega)) (nI_clamp (by omega)) (by omega) ?_
        refine w_vA k191_683 mt158 (kc0 (by decide)) ⟨rfl, by decide⟩ [_, _, _] rfl rfl rfl (hc _ _ hR) ?_
        rintro _ n1 f1 g1 ⟨rfl, hn1, hF, hG, hR1⟩
        obtain rfl : n1 = 153 := hn1
        refine w_aload_n k191_686 rfl rfl ?_
        refine w_aload_n k191_687 rfl rfl ?_
        refine w_iload_n k191_688 rfl ?_
        refine w_iconst k191_689 ?_
        refine w_iadd k191_690 ?_
        refine w_top (nI (i + 1)) (nI_add i 1) ?_
        refine w_sld k191_691 (nI_pos (by omega)) (nI_clamp (by omega)) (by omega) ?_
        refine w_aload_n k191_692 rfl rfl ?_
        refine w_iload_n k191_693 rfl ?_
        refine w_iconst k191_694 ?_
        refine w_iadd k191_695 ?_
        refine w_top (nI (i + 2)) (nI_add i 2) ?_
        refine w_sld k191_696 (nI_pos (by omega)) (nI_clamp (by omega)) (by omega) ?_
        refine w_aload_n k191_697 rfl rfl ?_
        refine w_iload_n k191_698 rfl ?_
        refine w_iconst k191_699 ?_
        refine w_iadd k191_700 ?_
        refine w_top (nI (i + 3)) (nI_add i 3) ?_
        refine w_sld k191_701 (nI_pos (by omega)) (nI_clamp (by omega)) (by omega) ?_
        refine w_vA k191_702 mt159 kd137 ⟨rfl, by decide⟩ [_, _, _] rfl rfl rfl (hm _ _ (hMd.frame hF hG)) ?_
        rintro _ n2 f2 g2 ⟨rfl, hn2, hg2, hF2, hR2⟩
        obtain rfl : n2 = 153 := hn2
        obtain rfl : g1 = g2 := hg2.symm
        refine w_icmp_eq k191_705 (fun h705 => ?_) (fun h705 => absurd (rfl) h705)
        refine w_iinc k191_904 rfl (ls' := [_, _, _, _]) rfl ?_
        refine w_goto k191_907 ?_
        rw [show nI i + 5 = nI (i + 5) from nI_add i 5]
        exact ih (i + 5) f2 g1 tx2 tl2 V2 M2 uN2 uL2 kN2 kL2 sn2 se2 (by omega) (by omega) (hR1.fr hX2.1 (Nat.le_refl _) hF2 (fun _ _ => rfl)) hR2 (hX2.le (by omega))
      ·
        refine w_tsw k191_32 (t := 710) (by decide) ?_
        obtain ⟨a, tx2, tl2, V2, M2, uN2, uL2, kN2, kL2, sn2, se2, hc, hm, hX2⟩ := pr_forget (S := S) hX (by omega)
        refine w_aload_n k191_710 rfl rfl ?_
        refine w_vA k191_711 mt160 (kc0 (by decide)) ⟨rfl, by decide⟩ [] rfl rfl rfl (hc _ _ hR) ?_
        rintro _ n1 f1 g1 ⟨rfl, hn1, hF, hG, hR1⟩
        obtain rfl : n1 = 153 := hn1
        refine w_aload_n k191_714 rfl rfl ?_
        refine w_vA k191_715 mt161 kd137 ⟨rfl, by decide⟩ [] rfl rfl rfl (hm _ _ (hMd.frame hF hG)) ?_
        rintro _ n2 f2 g2 ⟨rfl, hn2, hg2, hF2, hR2⟩
        obtain rfl : n2 = 153 := hn2
        obtain rfl : g1 = g2 := hg2.symm
        refine w_icmp_eq k191_718 (fun h718 => ?_) (fun h718 => absurd (rfl) h718)
        refine w_iinc k191_904 rfl (ls' := [_, _, _, _]) rfl ?_
        refine w_goto k191_907 ?_
        rw [show nI i + 5 = nI (i + 5) from nI_add i 5]
        exact ih (i + 5) f2 g1 tx2 tl2 V2 M2 uN2 uL2 kN2 kL2 sn2 se2 (by omega) (by omega) (hR1.fr hX2.1 (Nat.le_refl _) hF2 (fun _ _ => rfl)) hR2 (hX2.le (by omega))
      ·
        refine w_tsw k191_32 (t := 723) (by decide) ?_
        obtain ⟨a, tx2, tl2, V2, M2, uN2, uL2, kN2, kL2, sn2, se2, hc, hm, hX2⟩ := pr_kinds (S := S) hX (by omega) (S.1 (i + 1))
        refine w_aload_n k191_723 rfl rfl ?_
        refine w_aload_n k191_724 rfl rfl ?_
        refine w_iload_n k191_725 rfl ?_
        refine w_iconst k191_726 ?_
        refine w_iadd k191_727 ?_
        refine w_top (nI (i + 1)) (nI_add i 1) ?_
        refine w_sld k191_728 (nI_pos (by omega)) (nI_clamp (by omega)) (by omega) ?_
        refine w_vA k191_729 mt164 (kc0 (by decide)) ⟨rfl, by decide⟩ [_] rfl rfl rfl (hc _ _ hR) ?_
        rintro _ n1 f1 g1 ⟨rfl, hn1, hF, hG, hR1⟩
        obtain rfl : n1 = 153 := hn1
        refine w_aload_n k191_732 rfl rfl ?_
        refine w_aload_n k191_733 rfl rfl ?_
        refine w_iload_n k191_734 rfl ?_
        refine w_iconst k191_735 ?_
        refine w_iadd k191_736 ?_
        refine w_top (nI (i + 1)) (nI_add i 1) ?_
        refine w_sld k191_737 (nI_pos (by omega)) (nI_clamp (by omega)) (by omega) ?_
        refine w_vA k191_738 mt166 kd137 ⟨rfl, by decide⟩ [_] rfl rfl rfl (hm _ _ (hMd.frame hF hG)) ?_
        rintro _ n2 f2 g2 ⟨rfl, hn2, hg2, hF2, hR2⟩
        obtain rfl : n2 = 153 := hn2
        obtain rfl : g1 = g2 := hg2.symm
        refine w_icmp_eq k191_741 (fun h741 => ?_) (fun h741 => absurd (rfl) h741)
        refine w_iinc k191_904 rfl (ls' := [_, _, _, _]) rfl ?_
        refine w_goto k191_907 ?_
        rw [show nI i + 5 = nI (i + 5) from nI_add i 5]
        exact ih (i + 5) f2 g1 tx2 tl2 V2 M2 uN2 uL2 kN2 kL2 sn2 se2 (by omega) (by omega) (hR1.fr hX2.1 (Nat.le_refl _) hF2 (fun _ _ => rfl)) hR2 (hX2.le (by omega))
      ·
        refine w_tsw k191_32 (t := 746) (by decide) ?_
        obtain ⟨a, tx2, tl2, V2, M2, uN2, uL2, kN2, kL2, sn2, se2, hc, hm, hX2⟩ := pr_lies (S := S) hX (by omega)
        refine w_aload_n k191_746 rfl rfl ?_
        refine w_vA k191_747 mt167 (kc0 (by decide)) ⟨rfl, by decide⟩ [] rfl rfl rfl (hc _ _ hR) ?_
        rintro _ n1 f1 g1 ⟨rfl, hn1, hF, hG, hR1⟩
        obtain rfl : n1 = 153 := hn1
        refine w_aload_n k191_750 rfl rfl ?_
        refine w_vA k191_751 mt168 kd137 ⟨rfl, by decide⟩ [] rfl rfl rfl (hm _ _ (hMd.frame hF hG)) ?_
        rintro _ n2 f2 g2 ⟨rfl, hn2, hg2, hF2, hR2⟩
        obtain rfl : n2 = 153 := hn2
        obtain rfl : g1 = g2 := hg2.symm
        refine w_icmp_eq k191_754 (fun h754 => ?_) (fun h754 => absurd (rfl) h754)
        refine w_iinc k191_904 rfl (ls' := [_, _, _, _]) rfl ?_
        refine w_goto k191_907 ?_
        rw [show nI i + 5 = nI (i + 5) from nI_add i 5]
        exact ih (i + 5) f2 g1 tx2 tl2 V2 M2 uN2 uL2 kN2 kL2 sn2 se2 (by omega) (by omega) (hR1.fr hX2.1 (Nat.le_refl _) hF2 (fun _ _ => rfl)) hR2 (hX2.le (by omega))
      ·
        refine w_tsw k191_32 (t := 759) (by decide) ?_
        obtain ⟨a, tx2, tl2, V2, M2, uN2, uL2, kN2, kL2, sn2, se2, hc, hm, hX2⟩ := pr_slips (S := S) hX (by omega) (S.1 (i + 1)) (S.1 (i + 2)) (S.1 (i + 3)) (S.1 (i + 4))
        refine w_aload_n k191_759 rfl rfl ?_
        refine w_aload_n k191_760 rfl rfl ?_
        refine w_iload_n k191_761 rfl ?_
        refine w_iconst k191_762 ?_
        refine w_iadd k191_763 ?_
        refine w_top (nI (i + 1)) (nI_add i 1) ?_
        refine w_sld k191_764 (nI_pos (by omega)) (nI_clamp (by omega)) (by omega) ?_
        refine w_aload_n k191_765 rfl rfl ?_
        refine w_iload_n k191_766 rfl ?_
        refine w_iconst k191_767 ?_
        refine w_iadd k191_768 ?_
        refine w_top (nI (i + 2)) (nI_add i 2) ?_
        refine w_sld k191_769 (nI_pos (by omega)) (nI_clamp (by omega)) (by omega) ?_
        refine w_aload_n k191_770 rfl rfl ?_
        refine w_iload_n k191_771 rfl ?_
        refine w_iconst k191_772 ?_
        refine w_iadd k191_773 ?_
        refine w_top (nI (i + 3)) (nI_add i 3) ?_
        refine w_sld k191_774 (nI_pos (by omega)) (nI_clamp (by omega)) (by omega) ?_
        refine w_aload_n k191_775 rfl rfl ?_
        refine w_iload_n k191_776 rfl ?_
        refine w_iconst k191_777 ?_
        refine w_iadd k191_778 ?_
        refine w_top (nI (i + 4)) (nI_add i 4) ?_
        refine w_sld k191_779 (nI_pos (by omega)) (nI_clamp (by omega)) (by omega) ?_
        refine w_vA k191_780 mt173 (kc0 (by decide)) ⟨rfl, by decide⟩ [_, _, _, _] rfl rfl rfl (hc _ _ hR) ?_
        rintro _ n1 f1 g1 ⟨rfl, hn1, hF, hG, hR1⟩
        obtain rfl : n1 = 153 := hn1
        refine w_aload_n k191_783 rfl rfl ?_
        refine w_aload_n k191_784 rfl rfl ?_
        refine w_iload_n k191_785 rfl ?_
        refine w_iconst k191_786 ?_
        refine w_iadd k191_787 ?_
        refine w_top (nI (i + 1)) (nI_add i 1) ?_
        refine w_sld k191_788 (nI_pos (by omega)) (nI_clamp (by omega)) (by omega) ?_
        refine w_aload_n k191_789 rfl rfl ?_
        refine w_iload_n k191_790 rfl ?_
        refine w_iconst k191_791 ?_
        refine w_iadd k191_792 ?_
        refine w_top (nI (i + 2)) (nI_add i 2) ?_
        refine w_sld k191_793 (nI_pos (by omega)) (nI_clamp (by omega)) (by omega) ?_
        refine w_aload_n k191_794 rfl rfl ?_
        refine w_iload_n k191_795 rfl ?_
        refine w_iconst k191_796 ?_
        refine w_iadd k191_797 ?_
        refine w_top (nI (i + 3)) (nI_add i 3) ?_
        refine w_sld k191_798 (nI_pos (by omega)) (nI_clamp (by omega)) (by omega) ?_
        refine w_aload_n k191_799 rfl rfl ?_
        refine w_iload_n k191_800 rfl ?_
        refine w_iconst k191_801 ?_
        refine w_iadd k191_802 ?_
        refine w_top (nI (i + 4)) (nI_add i 4) ?_
        refine w_sld k191_803 (nI_pos (by omega)) (nI_clamp (by omega)) (by omega) ?_
        refine w_vA k191_804 mt177 kd137 ⟨rfl, by decide⟩ [_, _, _, _] rfl rfl rfl (hm _ _ (hMd.frame hF hG)) ?_
        rintro _ n2 f2 g2 ⟨rfl, hn2, hg2, hF2, hR2⟩
        obtain rfl : n2 = 153 := hn2
        obtain rfl : g1 = g2 := hg2.symm
        refine w_icmp_eq k191_807 (fun h807 => ?_) (fun h807 => absurd (rfl) h807)
        refine w_iinc k191_904 rfl (ls' := [_, _, _, _]) rfl ?_
        refine w_goto k191_907 ?_
        rw [show nI i + 5 = nI (i + 5) from nI_add i 5]
        exact ih (i + 5) f2 g1 tx2 tl2 V2 M2 uN2 uL2 kN2 kL2 sn2 se2 (by omega) (by omega) (hR1.fr hX2.1 (Nat.le_refl _) hF2 (fun _ _ => rfl)) hR2 (hX2.le (by omega))
      ·
        refine w_tsw k191_32 (t := 812) (by decide) ?_
        obtain ⟨a, tx2, tl2, V2, M2, uN2, uL2, kN2, kL2, sn2, se2, hc, hm, hX2⟩ := pr_evening (S := S) hX (by omega) (S.1 (i + 1)) (S.1 (i + 2)) (S.1 (i + 3))
        refine w_aload_n k191_812 rfl rfl ?_
        refine w_aload_n k191_813 rfl rfl ?_
        refine w_iload_n k191_814 rfl ?_
        refine w_iconst k191_815 ?_
        refine w_iadd k191_816 ?_
        refine w_top (nI (i + 1)) (nI_add i 1) ?_
        refine w_sld k191_817 (nI_pos (by omega)) (nI_clamp (by omega)) (by omega) ?_
        refine w_aload_n k191_818 rfl rfl ?_
        refine w_iload_n k191_819 rfl ?_
        refine w_iconst k191_820 ?_
        refine w_iadd k191_821 ?_
        refine w_top (nI (i + 2)) (nI_add i 2) ?_
        refine w_sld k191_822 (nI_pos (by omega)) (nI_clamp (by omega)) (by omega) ?_
        refine w_aload_n k191_823 rfl rfl ?_
        refine w_iload_n k191_824 rfl ?_
        refine w_iconst k191_825 ?_
        refine w_iadd k191_826 ?_
        refine w_top (nI (i + 3)) (nI_add i 3) ?_
        refine w_sld k191_827 (nI_pos (by omega)) (nI_clamp (by omega)) (by omega) ?_
        refine w_vA k191_828 mt181 (kc0 (by decide)) ⟨rfl, by decide⟩ [_, _, _] rfl rfl rfl (hc _ _ hR) ?_
        rintro _ n1 f1 g1 ⟨rfl, hn1, hF, hG, hR1⟩
        obtain rfl : n1 = 153 := hn1
        refine w_aload_n k191_831 rfl rfl ?_
        refine w_aload_n k191_832 rfl rfl ?_
        refine w_iload_n k191_833 rfl ?_
        refine w_iconst k191_834 ?_
        refine w_iadd k191_835 ?_
        refine w_top (nI (i + 1)) (nI_add i 1) ?_
        refine w_sld k191_836 (nI_pos (by omega)) (nI_clamp (by omega)) (by omega) ?_
        refine w_aload_n k191_837 rfl rfl ?_
        refine w_iload_n k191_838 rfl ?_
        refine w_iconst k191_839 ?_
        refine w_iadd k191_840 ?_
        refine w_top (nI (i + 2)) (nI_add i 2) ?_
        refine w_sld k191_841 (nI_pos (by omega)) (nI_clamp (by omega)) (by omega) ?_
        refine w_aload_n k191_842 rfl rfl ?_
        refine w_iload_n k191_843 rfl ?_
        refine w_iconst k191_844 ?_
        refine w_iadd k191_845 ?_
        refine w_top (nI (i + 3)) (nI_add i 3) ?_
        refine w_sld k191_846 (nI_pos (by omega)) (nI_clamp (by omega)) (by omega) ?_
        refine w_vA k191_847 mt182 kd137 ⟨rfl, by decide⟩ [_, _, _] rfl rfl rfl (hm _ _ (hMd.frame hF hG)) ?_
        rintro _ n2 f2 g2 ⟨rfl, hn2, hg2, hF2, hR2⟩
        obtain rfl : n2 = 153 := hn2
        obtain rfl : g1 = g2 := hg2.symm
        refine w_icmp_eq k191_850 (fun h850 => ?_) (fun h850 => absurd (rfl) h850)
        refine w_iinc k191_904 rfl (ls' := [_, _, _, _]) rfl ?_
        refine w_goto k191_907 ?_
        rw [show nI i + 5 = nI (i + 5) from nI_add i 5]
        exact ih (i + 5) f2 g1 tx2 tl2 V2 M2 uN2 uL2 kN2 kL2 sn2 se2 (by omega) (by omega) (hR1.fr hX2.1 (Nat.le_refl _) hF2 (fun _ _ => rfl)) hR2 (hX2.le (by omega))
      ·
        refine w_tsw k191_32 (t := 855) (by decide) ?_
        obtain ⟨a, tx2, tl2, V2, M2, uN2, uL2, kN2, kL2, sn2, se2, hc, hm, hX2⟩ := pr_keep (S := S) hX (by omega)
        refine w_aload_n k191_855 rfl rfl ?_
        refine w_vA k191_856 mt183 (kc0 (by decide)) ⟨rfl, by decide⟩ [] rfl rfl rfl (hc _ _ hR) ?_
        rintro _ n1 f1 g1 ⟨rfl, hn1, hF, hG, hR1⟩
        obtain rfl : n1 = 153 := hn1
        refine w_aload_n k191_859 rfl rfl ?_
        refine w_vA k191_860 mt184 kd137 ⟨rfl, by decide⟩ [] rfl rfl rfl (hm _ _ (hMd.frame hF hG)) ?_
        rintro _ n2 f2 g2 ⟨rfl, hn2, hg2, hF2, hR2⟩
        obtain rfl : n2 = 153 := hn2
        obtain rfl : g1 = g2 := hg2.symm
        refine w_icmp_eq k191_863 (fun h863 => ?_) (fun h863 => absurd (rfl) h863)
        refine w_iinc k191_904 rfl (ls' := [_, _, _, _]) rfl ?_
        refine w_goto k191_907 ?_
        rw [show nI i + 5 = nI (i + 5) from nI_add i 5]
        exact ih (i + 5) f2 g1 tx2 tl2 V2 M2 uN2 uL2 kN2 kL2 sn2 se2 (by omega) (by omega) (hR1.fr hX2.1 (Nat.le_refl _) hF2 (fun _ _ => rfl)) hR2 (hX2.le (by omega))
      ·
        refine w_tsw k191_32 (t := 868) (by decide) ?_
        obtain ⟨a, tx2, tl2, V2, M2, uN2, uL2, kN2, kL2, sn2, se2, hc, hm, hX2⟩ := pr_back (S := S) hX (by omega)
        refine w_aload_n k191_868 rfl rfl ?_
        refine w_vA k191_869 mt185 (kc0 (by decide)) ⟨rfl, by decide⟩ [] rfl rfl rfl (hc _ _ hR) ?_
        rintro _ n1 f1 g1 ⟨rfl, hn1, hF, hG, hR1⟩
        obtain rfl : n1 = 153 := hn1
        refine w_aload_n k191_872 rfl rfl ?_
        refine w_vA k191_873 mt186 kd137 ⟨rfl, by decide⟩ [] rfl rfl rfl (hm _ _ (hMd.frame hF hG)) ?_
        rintro _ n2 f2 g2 ⟨rfl, hn2, hg2, hF2, hR2⟩
        obtain rfl : n2 = 153 := hn2
        obtain rfl : g1 = g2 := hg2.symm
        refine w_icmp_eq k191_876 (fun h876 => ?_) (fun h876 => absurd (rfl) h876)
        refine w_iinc k191_904 rfl (ls' := [_, _, _, _]) rfl ?_
        refine w_goto k191_907 ?_
        rw [show nI i + 5 = nI (i + 5) from nI_add i 5]
        exact ih (i + 5) f2 g1 tx2 tl2 V2 M2 uN2 uL2 kN2 kL2 sn2 se2 (by omega) (by omega) (hR1.fr hX2.1 (Nat.le_refl _) hF2 (fun _ _ => rfl)) hR2 (hX2.le (by omega))
      ·
        refine w_tsw k191_32 (t := 881) (by decide) ?_
        obtain ⟨a, tx2, tl2, V2, M2, uN2, uL2, kN2, kL2, sn2, se2, hc, hm, hX2⟩ := pr_count (S := S) hX (by omega) (S.1 (i + 1))
        refine w_aload_n k191_881 rfl rfl ?_
        refine w_aload_n k191_882 rfl rfl ?_
        refine w_iload_n k191_883 rfl ?_
        refine w_iconst k191_884 ?_
        refine w_iadd k191_885 ?_
        refine w_top (nI (i + 1)) (nI_add i 1) ?_
        refine w_sld k191_886 (nI_pos (by omega)) (nI_clamp (by omega)) (by omega) ?_
        refine w_vA k191_887 mt188 (kc0 (by decide)) ⟨rfl, by decide⟩ [_] rfl rfl rfl (hc _ _ hR) ?_
        rintro _ n1 f1 g1 ⟨rfl, hn1, hF, hG, hR1⟩
        obtain rfl : n1 = 153 := hn1
        refine w_aload_n k191_890 rfl rfl ?_
        refine w_aload_n k191_891 rfl rfl ?_
        refine w_iload_n k191_892 rfl ?_
        refine w_iconst k191_893 ?_
        refine w_iadd k191_894 ?_
        refine w_top (nI (i + 1)) (nI_add i 1) ?_
        refine w_sld k191_895 (nI_pos (by omega)) (nI_clamp (by omega)) (by omega) ?_
        refine w_vA k191_896 mt190 kd137 ⟨rfl, by decide⟩ [_] rfl rfl rfl (hm _ _ (hMd.frame hF hG)) ?_
        rintro _ n2 f2 g2 ⟨rfl, hn2, hg2, hF2, hR2⟩
        obtain rfl : n2 = 153 := hn2
        obtain rfl : g1 = g2 := hg2.symm
        refine w_icmp_eq k191_899 (fun h899 => ?_) (fun h899 => absurd (rfl) h899)
        refine w_iinc k191_904 rfl (ls' := [_, _, _, _]) rfl ?_
        refine w_goto k191_907 ?_
        rw [show nI i + 5 = nI (i + 5) from nI_add i 5]
        exact ih (i + 5) f2 g1 tx2 tl2 V2 M2 uN2 uL2 kN2 kL2 sn2 se2 (by omega) (by omega) (hR1.fr hX2.1 (Nat.le_refl _) hF2 (fun _ _ => rfl)) hR2 (hX2.le (by omega))
      ·
        refine w_tsw k191_32 (t := 904) (tsw_out (Or.inr (by rw [nI_toInt (by omega)]; omega))) ?_
        refine w_iinc k191_904 rfl (ls' := [_, _, _, _]) rfl ?_
        refine w_goto k191_907 ?_
        rw [show nI i + 5 = nI (i + 5) from nI_add i 5]
        exact ih (i + 5) f g tx tl V M uN uL kN kL sn se (by omega) (by omega) hR hMd (hX.le (by omega))
theorem StX_0 : StX 0 strT 0 V0 M0 0 uL0 0 uL0 0 mo0 := by
  have rok := rdP_ok (tx := strT) (tl := 99) 200 0 va0 mo0 va0_W mo0_W rfl
  exact ⟨⟨fun i hi => absurd hi (Nat.not_lt_zero i), rok.1, ⟨rok.2.1, Nat.le_of_eq rok.2.2⟩, fun i hi => absurd hi (Nat.not_lt_zero i), fun i hi => absurd hi (Nat.not_lt_zero i), fun i hi => absurd hi (Nat.not_lt_zero i)⟩, by rw [V0_1]; decide, Nat.zero_le _⟩
set_option maxHeartbeats 1000000 in
theorem law_run (xs : Nat → Int32) (L : Nat) (hL : L ≤ 320) : Wp (xs, L) 40 191 0 [some (.float 0), none, none, none] [] 0 (fun _ _ => 0) (fun _ _ => none) (fun v n' _ _ => v = some (.int 1) ∧ n' = 153) := by
  refine w_new k191_0 (rfl) (by decide) ?_
  refine w_dup k191_3 rfl ?_
  refine w_iA k191_4 (by decide) mt51 (kdI (a := 0) rfl (by decide)) ⟨rfl, by decide, rfl, rfl⟩ [] rfl rfl rfl (sp_X8i (fun _ _ => rfl)) ?_
  rintro _ n1 f1 g1 ⟨rfl, hn1, hF1, hR1⟩
  obtain rfl : n1 = 137 := hn1
  refine w_astore_n k191_7 rfl (ls' := [_, _, _, _]) rfl ?_
  refine w_new k191_8 (rfl) (by decide) ?_
  refine w_dup k191_11 rfl ?_
  refine w_iA k191_12 (by decide) mt57 (kdI (a := 137) rfl (by decide)) ⟨rfl, by decide, rfl, rfl⟩ [] rfl rfl rfl (sp_X9i (fun x hx k => by rw [hF1 x hx])) ?_
  rintro _ n2 f2 g2 ⟨rfl, hn2, hF2, hG2, hR2⟩
  obtain rfl : n2 = 153 := hn2
  refine w_astore_n k191_15 rfl (ls' := [_, _, _, _]) rfl ?_
  refine w_iconst k191_16 ?_
  refine w_istore_n k191_17 (ls' := [_, _, _, _]) rfl ?_
  exact ml_law (S := (xs, L)) hL 64 0 f2 g2 strT 0 V0 M0 0 uL0 0 uL0 0 mo0 (by show L ≤ _; omega) (by decide) (hR1.fr StX_0.1 (by decide) hF2 hG2) hR2 StX_0
