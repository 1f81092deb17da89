/-! SPECS, 37: the model, evening -/
set_option maxHeartbeats 1000000 in
theorem ml_ev190 {S : Scr} {d : Nat} {f : FF} {g : GG} {V : Va} {M : Nat → Nat → Nat} {w : Nat} {q1 q2 : Int32} {q6 q7 q8 : Option Value} (G : GOm g) (hV : VWf V) (hA : MR1 (f 149) M) (hM : MoW V M) (hw : w < 2) : ∀ (t j a : Nat), t + j = M 0 2 → sumOut M t j a = sumOut M (M 0 2) 0 0 → Wp S (d + 4) 182 190 [some (.ref 137), some (.int q1), some (.int q2), some (.int (nI w)), some (.int (nI a)), some (.int (nI j)), q6, q7, q8] [] 153 f g (fun v n' f' g' => v = some (.int (nI (evV V M w))) ∧ n' = 153 ∧ g' = g ∧ f' = f) := by
  have h9 := hV.1
  have h6 := hM.1
  have h1 := hM.l12 h9
  intro t
  induction t with
  | zero =>
    intro j a e0 e1
    have e1 : a = sumOut M (M 0 2) 0 0 := e1
    have hs := sumOut_le (M := M) (M 0 2) 0 0 (fun i _ hi => (hM.2.2.2 i (by omega)).2.2.2.1.lt)
    refine w_iload k182_190 rfl ?_
    refine w_aload_n k182_192 rfl rfl ?_
    refine w_getr k182_193 (k := 17) kd137 (by decide) (r137_17 G) ?_
    refine w_iconst k182_196 ?_
    refine w_iald k182_197 kd149 (by decide) (show (2 : Int32).toNatClampNeg = 2 from rfl) (by decide) ?_
    rw [hA.2.2.1]
    refine w_icmp_ge k182_198 (fun h198 => ?_) (fun h198 => absurd (nI_le (by omega) (by omega)) h198)
    refine w_iload_n k182_240 rfl ?_
    refine w_if_ne k182_241 (fun h241 => ?_) (fun h241 => ?_)
    ·
      have y3 : ¬ w = 0 := fun hh => h241 (by rw [hh]; rfl)
      refine w_iload k182_254 rfl ?_
      refine w_sipush k182_256 ?_
      refine w_irem k182_259 (by decide) ?_
      refine w_top (nI (a % 9973)) (pk_rem (d := 9973) (by omega) (by omega) (by omega)) ?_
      refine w_iret k182_260 mt182 (.int) rfl (rfl) ?_
      refine ⟨?_, rfl, rfl, rfl⟩
      unfold evV
      first
        | (rw [if_pos y3]; done)
        | (rw [if_neg y3, e1]; done)
    ·
      have y3 : w = 0 := (nI_eq (b := 0) (by omega) (by omega)).mp h241
      refine w_aload_n k182_244 rfl rfl ?_
      refine w_getr k182_245 (k := 17) kd137 (by decide) (r137_17 G) ?_
      refine w_sI k182_248 (by decide) mt111 [_] rfl rfl rfl (mp_outOf kd149 hA h6 h1) ?_
      refine w_goto k182_251 ?_
      refine w_iret k182_260 mt182 (.int) rfl (rfl) ?_
      refine ⟨?_, rfl, rfl, rfl⟩
      unfold evV
      first
        | (rw [if_pos y3]; done)
        | (rw [if_neg y3, e1]; done)
  | succ t ih =>
    intro j a e0 e1
    refine w_iload k182_190 rfl ?_
    refine w_aload_n k182_192 rfl rfl ?_
    refine w_getr k182_193 (k := 17) kd137 (by decide) (r137_17 G) ?_
    refine w_iconst k182_196 ?_
    refine w_iald k182_197 kd149 (by decide) (show (2 : Int32).toNatClampNeg = 2 from rfl) (by decide) ?_
    rw [hA.2.2.1]
    refine w_icmp_ge k182_198 (fun h198 => absurd h198 (nI_ge (by omega) (by omega))) (fun h198 => ?_)
    refine w_iload k182_201 rfl ?_
    refine w_aload_n k182_203 rfl rfl ?_
    refine w_getr k182_204 (k := 17) kd137 (by decide) (r137_17 G) ?_
    refine w_iload k182_207 rfl ?_
    refine w_iconst k182_209 ?_
    refine w_sI k182_210 (by decide) mt79 [_, _, _] rfl rfl rfl (mp_is (m := j) (w := 1) kd149 (by omega) (by omega)) ?_
    rw [hA.k (m := j) (k := 1) (by omega) (by omega)]
    refine w_iconst k182_213 ?_
    refine w_icmp_ne k182_214 (fun h214 => ?_) (fun h214 => ?_)
    ·
      have y1 : ¬ M (j + 1) 1 = 2 := fun hh => h214 (by rw [hh]; rfl)
      refine w_iconst k182_230 ?_
      refine w_iadd k182_231 ?_
      refine w_istore k182_232 (ls' := [_, _, _, _, _, _, _, _, _]) rfl ?_
      refine w_iinc k182_234 rfl (ls' := [_, _, _, _, _, _, _, _, _]) rfl ?_
      refine w_goto k182_237 ?_
      rw [nI_1 j]
      first
        | (rw [nI_add]; rw [sumOut_in y1] at e1; exact ih _ _ (by omega) e1)
        | (rw [show nI a + 0 = nI a from nI_add a 0]; rw [sumOut_out y1] at e1; exact ih _ _ (by omega) e1)
    ·
      have y1 : M (j + 1) 1 = 2 := (nI_eq (b := 2) (h1 j (by omega)).1 (by omega)).mp h214
      refine w_aload_n k182_217 rfl rfl ?_
      refine w_getr k182_218 (k := 17) kd137 (by decide) (r137_17 G) ?_
      refine w_iload k182_221 rfl ?_
      refine w_iconst k182_223 ?_
      refine w_sI k182_224 (by decide) mt79 [_, _, _] rfl rfl rfl (mp_is (m := j) (w := 3) kd149 (by omega) (by omega)) ?_
      rw [hA.k (m := j) (k := 3) (by omega) (by omega)]
      refine w_goto k182_227 ?_
      refine w_iadd k182_231 ?_
      refine w_istore k182_232 (ls' := [_, _, _, _, _, _, _, _, _]) rfl ?_
      refine w_iinc k182_234 rfl (ls' := [_, _, _, _, _, _, _, _, _]) rfl ?_
      refine w_goto k182_237 ?_
      rw [nI_1 j]
      first
        | (rw [nI_add]; rw [sumOut_in y1] at e1; exact ih _ _ (by omega) e1)
        | (rw [show nI a + 0 = nI a from nI_add a 0]; rw [sumOut_out y1] at e1; exact ih _ _ (by omega) e1)
set_option maxHeartbeats 1000000 in
theorem ml_evening {S : Scr} {d : Nat} {f : FF} {g : GG} {z N w : Nat} {V : Va} (G : GOm g) (hVa : MVa f V) (hV : VWf V) (h1 : 1 ≤ V.1) (hz : z ≤ 9999) (hN : N ≤ 60) (hw : w < 2) : ∀ (t k : Nat) (f1 : FF) (M : Nat → Nat → Nat) (q5 q6 q7 q8 : Option Value), t + k = N → (∀ x, x ≠ 149 → f1 x = f x) → MR1 (f1 149) M → MoW V M → M 0 0 + t < 2 ^ 20 → Wp S (d + 4) 182 39 [some (.ref 137), some (.int (nI z)), some (.int (nI N)), some (.int (nI w)), some (.int (nI k)), q5, q6, q7, q8] [] 153 f1 g (fun v n' f' g' => v = some (.int (nI (evV V (evA V z t k M) w))) ∧ n' = 153 ∧ g' = g ∧ ∀ x, x ≠ 149 → f' x = f x) := by
  have h9 := hV.1
  intro t
  induction t with
  | zero =>
    intro k f1 M q5 q6 q7 q8 e0 e1 e2 e3 e4
    refine w_iload k182_39 rfl ?_
    refine w_iload_n k182_41 rfl ?_
    refine w_icmp_ge k182_42 (fun h42 => ?_) (fun h42 => absurd (nI_le (by omega) (by omega)) h42)
    refine w_iconst k182_184 ?_
    refine w_istore k182_185 (ls' := [_, _, _, _, _, _, _, _, _]) rfl ?_
    refine w_iconst k182_187 ?_
    refine w_istore k182_188 (ls' := [_, _, _, _, _, _, _, _, _]) rfl ?_
    refine (ml_ev190 G hV e2 e3 hw (M 0 2) 0 0 (by omega) rfl).mono ?_
    rintro _ _ f3 _ ⟨rfl, rfl, rfl, rfl⟩
    exact ⟨rfl, rfl, rfl, e1⟩
  | succ t ih =>
    intro k f1 M q5 q6 q7 q8 e0 e1 e2 e3 e4
    have hm6 := e3.1
    have hmi := e3.2.2.1
    have hhp : ∀ f2 : FF, (∀ x, x ≠ 149 → f2 x = f x) → MR1 (f2 149) (hpW V M (dW z k)) → ∀ q5 q6 q7 q8 : Option Value, Wp S (d + 4) 182 170 [some (.ref 137), some (.int (nI z)), some (.int (nI N)), some (.int (nI w)), some (.int (nI k)), q5, q6, q7, q8] [] 153 f2 g (fun v n' f' g' => v = some (.int (nI (evV V (evA V z (t + 1) k M) w))) ∧ n' = 153 ∧ g' = g ∧ ∀ x, x ≠ 149 → f' x = f x) := by
      intro f2 o2 r2 q5 q6 q7 q8
      have hW2 := hpW_W (e := dW z k) hV h1 e3
      have hm0 : hpW V M (dW z k) 0 0 = M 0 0 := hpW_0
      refine w_aload_n k182_170 rfl rfl ?_
      refine w_aload_n k182_171 rfl rfl ?_
      refine w_getr k182_172 (k := 17) kd137 (by decide) (r137_17 G) ?_
      refine w_vA k182_175 mt110 kd137 ⟨rfl, by decide⟩ [_] rfl rfl rfl (mp_passes G kd149 (hVa.arr kd149 o2) hV r2 hW2) ?_
      rintro _ _ f3 _ ⟨rfl, rfl, rfl, hO3, hM3⟩
      refine w_iinc k182_178 rfl (ls' := [_, _, _, _, _, _, _, _, _]) rfl ?_
      refine w_goto k182_181 ?_
      rw [nI_1]
      exact ih (k + 1) f3 (mnA V (hpW V M (dW z k))) _ _ _ _ (by omega) (fun x hx => by rw [hO3 x hx, o2 x hx]) hM3 (hW2.min hV (by rw [hm0]; omega)) (by show hpW V M (dW z k) 0 0 + 1 + t < 2 ^ 20; rw [hm0]; omega)
    refine w_iload k182_39 rfl ?_
    refine w_iload_n k182_41 rfl ?_
    refine w_icmp_ge k182_42 (fun h42 => absurd h42 (nI_ge (by omega) (by omega))) (fun h42 => ?_)
    refine w_ldc2 k182_45 ?_
    refine w_iload_n k182_48 rfl ?_
    refine w_i2l k182_49 ?_
    refine w_lmul k182_50 ?_
    refine w_ldc2 k182_51 ?_
    refine w_iload k182_54 rfl ?_
    refine w_i2l k182_56 ?_
    refine w_lmul k182_57 ?_
    refine w_ladd k182_58 ?_
    refine w_lconst k182_59 ?_
    refine w_ladd k182_60 ?_
    refine w_topL (lN (7919 * z + 6151 * k + 1)) (by rw [lc_7919, lc_6151, lc_1, nI_l (by omega), nI_l (by omega), lN_mul, lN_mul, lN_add, lN_add]) ?_
    refine w_lstore k182_61 (ls' := [_, _, _, _, _, _, _, _, _]) rfl ?_
    refine w_lload k182_63 rfl ?_
    refine w_lload k182_65 rfl ?_
    refine w_lmul k182_67 ?_
    rw [lN_mul]
    refine w_ldc2 k182_68 ?_
    rw [lc_65521]
    refine w_lrem k182_71 (by decide) ?_
    have hx : 7919 * z + 6151 * k + 1 < 2 ^ 31 := by omega
    have hxx : (7919 * z + 6151 * k + 1) * (7919 * z + 6151 * k + 1) < 2 ^ 63 := Nat.lt_of_lt_of_le (Nat.mul_lt_mul'' hx hx) (by decide)
    refine w_topL (lN (dW z k)) (pk_lRem hxx (by decide) (by decide)) ?_
    refine w_l2i k182_72 ?_
    rw [lN_i]
    have he := dW_lt z k
    generalize hE : dW z k = e at he hhp ⊢
    refine w_istore k182_73 (ls' := [_, _, _, _, _, _, _, _, _]) rfl ?_
    refine w_iload k182_75 rfl ?_
    refine w_bipush k182_77 ?_
    refine w_idiv k182_79 (by decide) ?_
    refine w_top (nI (e / 8)) (pk_div (d := 8) (by omega) (by omega) (by omega)) ?_
    refine w_aload_n k182_80 rfl rfl ?_
    refine w_geti k182_81 (k := 12) kd137 (by decide) ?_
    rw [(hVa.arr kd149 e1).1]
    refine w_irem k182_84 (nI_ne0 (by omega) (by omega)) ?_
    refine w_top (nI (e / 8 % V.1)) (pk_rem (d := V.1) (by omega) (by omega) (by omega)) ?_
    have hc : e / 8 % V.1 < V.1 := Nat.mod_lt _ h1
    refine w_istore k182_85 (ls' := [_, _, _, _, _, _, _, _, _]) rfl ?_
    refine w_aload_n k182_87 rfl rfl ?_
    refine w_getr k182_88 (k := 17) kd137 (by decide) (r137_17 G) ?_
    refine w_iconst k182_91 ?_
    refine w_dup2 k182_92 rfl rfl ?_
    refine w_iald k182_93 kd149 (by decide) (show (1 : Int32).toNatClampNeg = 1 from rfl) (by decide) ?_
    rw [e2.2.1]
    refine w_iload k182_94 rfl ?_
    refine w_bipush k182_96 ?_
    refine w_irem k182_98 (by decide) ?_
    refine w_top (nI (e % 8)) (pk_rem (d := 8) (by omega) (by omega) (by omega)) ?_
    refine w_if_ne k182_99 (fun h99 => ?_) (fun h99 => ?_)
    ·
      have y1 : ¬ e % 8 = 0 := fun hh => h99 (by rw [hh]; rfl)
      refine w_iconst k182_109 ?_
      refine w_top (nI 0) (rfl) ?_
      refine w_ixor k182_110 ?_
      rw [nI_xor]
      refine w_iast k182_111 kd149 (by decide) (show (1 : Int32).toNatClampNeg = 1 from rfl) (by decide) ?_
      have hX : ∀ x : Nat, MR1 (fup f1 149 1 (nI x) 149) (mset0 M 1 x) := fun x => e2.ind fup_self (fun q hq => fup_ne hq)
      have hN : MR1 (fup f1 149 1 (nI (M 0 1 ^^^ 0)) 149) M := e2.eq hm6 (fun q hq => by
        by_cases hq1 : q = 1
        · rw [hq1, fup_self, Nat.xor_zero]; exact e2.2.1.symm
        · rw [fup_ne hq1])
      have hOX : ∀ (w : Int32) (x : Nat), x ≠ 149 → fup f1 149 1 w x = f x := fun w x hx => by funext y; rw [fup_no hx, e1 x hx]
      refine w_iload k182_112 rfl ?_
      refine w_bipush k182_114 ?_
      refine w_irem k182_116 (by decide) ?_
      refine w_top (nI (e % 8)) (pk_rem (d := 8) (by omega) (by omega) (by omega)) ?_
      refine w_iconst k182_117 ?_
      refine w_icmp_ne k182_118 (fun h118 => ?_) (fun h118 => ?_)
      ·
        have y2 : ¬ e % 8 = 1 := fun hh => h118 (by rw [hh]; rfl)
        refine hhp _ ?_ ?_ _ _ _ _
        · first
            | exact hOX _
            | exact fun x hx => by rw [hO2 x hx]; exact hOX _ x hx
        · unfold hpW
          first
            | (rw [if_pos y1]; exact hX _)
            | (rw [if_neg y1, if_neg (fun hh => y2 hh.1)]; exact hN)
            | (rw [if_neg y1, if_neg (fun hh => y4 hh.2)]; exact hN)
            | (rw [if_neg y1, if_pos ⟨y2, y4⟩]; exact hM2)
      ·
        have y2 : e % 8 = 1 := (nI_eq (b := 1) (by omega) (by omega)).mp h118
        refine w_aload_n k182_121 rfl rfl ?_
        refine w_getr k182_122 (k := 17) kd137 (by decide) (r137_17 G) ?_
        refine w_iconst k182_125 ?_
        refine w_iald k182_126 kd149 (by decide) (show (2 : Int32).toNatClampNeg = 2 from rfl) (by decide) ?_
        rw [fup_ne (by omega), e2.2.2.1]
        refine w_bipush k182_127 ?_
        refine w_icmp_ge k182_129 (fun h129 => ?_) (fun h129 => ?_)
        ·
          have y4 : ¬ M 0 2 < 6 := Nat.not_lt.mpr ((nI_leI (a := 6) (by omega) (by omega)).mp h129)
          refine hhp _ ?_ ?_ _ _ _ _
          · first
              | exact hOX _
              | exact fun x hx => by rw [hO2 x hx]; exact hOX _ x hx
          · unfold hpW
            first
              | (rw [if_pos y1]; exact hX _)
              | (rw [if_neg y1, if_neg (fun hh => y2 hh.1)]; exact hN)
              | (rw [if_neg y1, if_neg (fun hh => y4 hh.2)]; exact hN)
              | (rw [if_neg y1, if_pos ⟨y2, y4⟩]; exact hM2)
        ·
          have y4 : M 0 2 < 6 := Nat.not_le.mp fun hh => h129 ((nI_leI (a := 6) (by omega) (by omega)).mpr hh)
          refine w_aload_n k182_132 rfl rfl ?_
          refine w_getr k182_133 (k := 17) kd137 (by decide) (r137_17 G) ?_
          refine w_iload k182_136 rfl ?_
          refine w_aload_n k182_138 rfl rfl ?_
          refine w_getr k182_139 (k := 17) kd137 (by decide) (r137_17 G) ?_
          refine w_iconst k182_142 ?_
          refine w_iald k182_143 kd149 (by decide) (show (0 : Int32).toNatClampNeg = 0 from rfl) (by decide) ?_
          rw [fup_ne (by omega), e2.1]
          refine w_iconst k182_144 ?_
          refine w_iconst k182_145 ?_
          refine w_iload k182_146 rfl ?_
          refine w_sipush k182_148 ?_
          refine w_idiv k182_151 (by decide) ?_
          refine w_top (nI (e / 128)) (pk_div (d := 128) (by omega) (by omega) (by omega)) ?_
          refine w_iconst k182_152 ?_
          refine w_irem k182_153 (by decide) ?_
          refine w_top (nI ((e / 128) % 3)) (pk_rem (d := 3) (by omega) (by omega) (by omega)) ?_
          refine w_iadd k182_154 ?_
          refine w_top (nI (1 + e / 128 % 3)) (nI_add 1 _) ?_
          refine w_imul k182_155 ?_
          refine w_top (nI (4 * (1 + e / 128 % 3))) (pk_mul 4 _) ?_
          refine w_iconst k182_156 ?_
          refine w_iadd k182_157 ?_
          refine w_top (nI (4 * (1 + e / 128 % 3) + 1)) (nI_add _ 1) ?_
          refine w_iload k182_158 rfl ?_
          refine w_sipush k182_160 ?_
          refine w_idiv k182_163 (by decide) ?_
          refine w_top (nI (e / 512)) (pk_div (d := 512) (by omega) (by omega) (by omega)) ?_
          refine w_iconst k182_164 ?_
          refine w_irem k182_165 (by decide) ?_
          refine w_top (nI ((e / 512) % 3)) (pk_rem (d := 3) (by omega) (by omega) (by omega)) ?_
          refine w_iadd k182_166 ?_
          refine w_top (nI (hpR e)) (by rw [nI_add]; congr 1; unfold hpR; omega) ?_
          refine w_sA k182_167 (by decide) mt55 [_, _, _, _] rfl rfl rfl (mp_adds kd149 hN y4 (e / 8 % V.1) (M 0 0) (hpR e)) ?_
          rintro _ _ f2 _ ⟨rfl, rfl, rfl, hO2, hM2⟩
          refine hhp _ ?_ ?_ _ _ _ _
          · first
              | exact hOX _
              | exact fun x hx => by rw [hO2 x hx]; exact hOX _ x hx
          · unfold hpW
            first
              | (rw [if_pos y1]; exact hX _)
              | (rw [if_neg y1, if_neg (fun hh => y2 hh.1)]; exact hN)
              | (rw [if_neg y1, if_neg (fun hh => y4 hh.2)]; exact hN)
              | (rw [if_neg y1, if_pos ⟨y2, y4⟩]; exact hM2)
    ·
      have y1 : e % 8 = 0 := (nI_eq (b := 0) (by omega) (by omega)).mp h99
      refine w_iconst k182_102 ?_
      refine w_iload k182_103 rfl ?_
      refine w_ishl k182_105 ?_
      rw [shl1_n (by omega)]
      refine w_goto k182_106 ?_
      refine w_ixor k182_110 ?_
      rw [nI_xor]
      refine w_iast k182_111 kd149 (by decide) (show (1 : Int32).toNatClampNeg = 1 from rfl) (by decide) ?_
      have hX : ∀ x : Nat, MR1 (fup f1 149 1 (nI x) 149) (mset0 M 1 x) := fun x => e2.ind fup_self (fun q hq => fup_ne hq)
      have hN : MR1 (fup f1 149 1 (nI (M 0 1 ^^^ 0)) 149) M := e2.eq hm6 (fun q hq => by
        by_cases hq1 : q = 1
        · rw [hq1, fup_self, Nat.xor_zero]; exact e2.2.1.symm
        · rw [fup_ne hq1])
      have hOX : ∀ (w : Int32) (x : Nat), x ≠ 149 → fup f1 149 1 w x = f x := fun w x hx => by funext y; rw [fup_no hx, e1 x hx]
      refine w_iload k182_112 rfl ?_
      refine w_bipush k182_114 ?_
      refine w_irem k182_116 (by decide) ?_
      refine w_top (nI (e % 8)) (pk_rem (d := 8) (by omega) (by omega) (by omega)) ?_
      refine w_iconst k182_117 ?_
      refine w_icmp_ne k182_118 (fun h118 => ?_) (fun h118 => absurd h118 (fun hh => absurd ((nI_eq (b := 1) (by omega) (by omega)).mp hh) (by omega)))
      refine hhp _ ?_ ?_ _ _ _ _
      · first
          | exact hOX _
          | exact fun x hx => by rw [hO2 x hx]; exact hOX _ x hx
      · unfold hpW
        first
          | (rw [if_pos y1]; exact hX _)
          | (rw [if_neg y1, if_neg (fun hh => y2 hh.1)]; exact hN)
          | (rw [if_neg y1, if_neg (fun hh => y4 hh.2)]; exact hN)
          | (rw [if_neg y1, if_pos ⟨y2, y4⟩]; exact hM2)
set_option maxHeartbeats 1000000 in
theorem mp_evening {S : Scr} {d : Nat} {f : FF} {g : GG} {B : Nat} {tx : Nat → Nat} {tl : Nat} {V : Va} {M : Nat → Nat → Nat} {uN : Nat} {uL : Nat → Nat → Nat → Nat} {kN : Nat} {kL : Nat → Nat → Nat → Nat} {sn : Nat} {se : Nat → Nat → Nat} (G : GOm g) (hR : MRl f g tx tl V M uN uL kN kL sn se) (hW : StW B tx tl V M uN uL kN kL sn se) (h1 : 1 ≤ V.1) {z N w : Nat} (hz : z ≤ 9999) (hN1 : 1 ≤ N) (hN : N ≤ 60) (hw : w < 2) (hB : M 0 0 + 60 < 2 ^ 20) : Wp S (d + 4) 182 0 [some (.ref 137), some (.int (nI z)), some (.int (nI N)), some (.int (nI w)), none, none, none, none, none] [] 153 f g (MdQ f g (nI (evV V (evA V z N 0 M) w)) tx tl V M uN uL kN kL sn se) := by
  obtain ⟨g0, hL, hVa, hA, hU, hK, hS⟩ := id hR
  have h200 := hL.2.1
  have hV := hW.2.1
  have hM := hW.2.2.1.1
  have h9 := hV.1
  have hm6 := hM.1
  have hmt := hM.2.1
  have hmi := hM.2.2.1
  refine w_iload_n k182_0 rfl ?_
  refine w_iconst k182_1 ?_
  refine w_sipush k182_2 ?_
  refine w_sI k182_5 (by decide) mt59 [_, _, _] rfl rfl rfl (mp_in _ _ _) ?_
  refine w_if_eq k182_8 (fun h8 => absurd h8 (bI_n0.mpr (decide_eq_true ⟨(nI_leI (a := 0) (by omega) (by omega)).mpr (by omega), (nI_leI (b := 9999) (by omega) (by omega)).mpr (by omega)⟩))) (fun h8 => ?_)
  refine w_iload_n k182_11 rfl ?_
  refine w_iconst k182_12 ?_
  refine w_bipush k182_13 ?_
  refine w_sI k182_15 (by decide) mt59 [_, _, _] rfl rfl rfl (mp_in _ _ _) ?_
  refine w_if_eq k182_18 (fun h18 => absurd h18 (bI_n0.mpr (decide_eq_true ⟨(nI_leI (a := 1) (by omega) (by omega)).mpr (by omega), (nI_leI (b := 60) (by omega) (by omega)).mpr (by omega)⟩))) (fun h18 => ?_)
  refine w_iload_n k182_21 rfl ?_
  refine w_iconst k182_22 ?_
  refine w_iconst k182_23 ?_
  refine w_sI k182_24 (by decide) mt59 [_, _, _] rfl rfl rfl (mp_in _ _ _) ?_
  refine w_if_ne k182_27 (fun h27 => ?_) (fun h27 => absurd h27 (bI_n0.mpr (decide_eq_true ⟨(nI_leI (a := 0) (by omega) (by omega)).mpr (by omega), (nI_leI (b := 1) (by omega) (by omega)).mpr (by omega)⟩)))
  refine w_aload_n k182_32 rfl rfl ?_
  refine w_vA k182_33 mt137 kd137 ⟨rfl, by decide⟩ [] rfl rfl rfl (mp_copyNow G) ?_
  rintro _ _ f1 _ ⟨rfl, rfl, rfl, hO, hq⟩
  have hT1 : MR1 (f1 149) M := hA.eq hm6 hq
  refine w_iconst k182_36 ?_
  refine w_istore k182_37 (ls' := [_, _, _, _, _, _, _, _, _]) rfl ?_
  refine (ml_evening G (hVa.arr kd149 hO) hV h1 hz hN hw N 0 f1 M none none none none rfl (fun _ _ => rfl) hT1 hM (by omega)).mono ?_
  rintro _ _ f3 _ ⟨rfl, rfl, rfl, hO3⟩
  have hO4 : ∀ x, x ≠ 149 → f3 x = f x := fun x hx => by rw [hO3 x hx, hO x hx]
  exact ⟨rfl, rfl, rfl, fun x hx => hO4 x (by omega), hR.t hO4⟩
set_option maxHeartbeats 1000000 in
theorem mp_evening0 {S : Scr} {d : Nat} {f : FF} {g : GG} {B : Nat} {tx : Nat → Nat} {tl : Nat} {V : Va} {M : Nat → Nat → Nat} {uN : Nat} {uL : Nat → Nat → Nat → Nat} {kN : Nat} {kL : Nat → Nat → Nat → Nat} {sn : Nat} {se : Nat → Nat → Nat} (G : GOm g) (hR : MRl f g tx tl V M uN uL kN kL sn se) (hW : StW B tx tl V M uN uL kN kL sn se) (h1 : 1 ≤ V.1) {x y z : Int32} (hb : ¬ ((0 ≤ x ∧ x ≤ 9999) ∧ (1 ≤ y ∧ y ≤ 60) ∧ 0 ≤ z ∧ z ≤ 1)) : Wp S (d + 4) 182 0 [some (.ref 137), some (.int x), some (.int y), some (.int z), none, none, none, none, none] [] 153 f g (MdQ f g (-1) tx tl V M uN uL kN kL sn se) := by
  obtain ⟨g0, hL, hVa, hA, hU, hK, hS⟩ := id hR
  have h200 := hL.2.1
  have hV := hW.2.1
  have hM := hW.2.2.1.1
  have h9 := hV.1
  have hm6 := hM.1
  have hmt := hM.2.1
  have hmi := hM.2.2.1
  refine w_iload_n k182_0 rfl ?_
  refine w_iconst k182_1 ?_
  refine w_sipush k182_2 ?_
  refine w_sI k182_5 (by decide) mt59 [_, _, _] rfl rfl rfl (mp_in _ _ _) ?_
  refine w_if_eq k182_8 (fun h8 => ?_) (fun h8 => ?_)
  ·
    refine w_iconst k182_30 ?_
    refine w_iret k182_31 mt182 (.int) rfl (rfl) ?_
    exact MdQ.same hR
  ·
    have x8 := of_decide_eq_true (bI_n0.mp h8)
    refine w_iload_n k182_11 rfl ?_
    refine w_iconst k182_12 ?_
    refine w_bipush k182_13 ?_
    refine w_sI k182_15 (by decide) mt59 [_, _, _] rfl rfl rfl (mp_in _ _ _) ?_
    refine w_if_eq k182_18 (fun h18 => ?_) (fun h18 => ?_)
    ·
      refine w_iconst k182_30 ?_
      refine w_iret k182_31 mt182 (.int) rfl (rfl) ?_
      exact MdQ.same hR
    ·
      have x18 := of_decide_eq_true (bI_n0.mp h18)
      refine w_iload_n k182_21 rfl ?_
      refine w_iconst k182_22 ?_
      refine w_iconst k182_23 ?_
      refine w_sI k182_24 (by decide) mt59 [_, _, _] rfl rfl rfl (mp_in _ _ _) ?_
      refine w_if_ne k182_27 (fun h27 => absurd (bI_0.mpr (decide_eq_false fun hh => hb ⟨x8, x18, hh⟩)) h27) (fun h27 => ?_)
      refine w_iconst k182_30 ?_
      refine w_iret k182_31 mt182 (.int) rfl (rfl) ?_
      exact MdQ.same hR
